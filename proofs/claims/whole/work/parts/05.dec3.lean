theorem dX6_isByLetters_24 : decode cX6_isByLetters 24 = .ok (.iconst 1, 1) := by decide +kernel
theorem dX6_isByLetters_25 : decode cX6_isByLetters 25 = .ok (.iand, 1) := by decide +kernel
theorem dX6_isByLetters_26 : decode cX6_isByLetters 26 = .ok (.iconst 1, 1) := by decide +kernel
theorem dX6_isByLetters_27 : decode cX6_isByLetters 27 = .ok (.if_icmp .ne 14, 3) := by decide +kernel
theorem dX6_isByLetters_30 : decode cX6_isByLetters 30 = .ok (.aload_n 0, 1) := by decide +kernel
theorem dX6_isByLetters_31 : decode cX6_isByLetters 31 = .ok (.bipush 28, 2) := by decide +kernel
theorem dX6_isByLetters_33 : decode cX6_isByLetters 33 = .ok (.bipush 20, 2) := by decide +kernel
theorem dX6_isByLetters_35 : decode cX6_isByLetters 35 = .ok (.iload 6, 2) := by decide +kernel
theorem dX6_isByLetters_37 : decode cX6_isByLetters 37 = .ok (.iadd, 1) := by decide +kernel
theorem dX6_isByLetters_38 : decode cX6_isByLetters 38 = .ok (.invokevirtual 114, 3) := by decide +kernel
theorem dX6_isByLetters_41 : decode cX6_isByLetters 41 = .ok (.iinc 6 1, 3) := by decide +kernel
theorem dX6_isByLetters_44 : decode cX6_isByLetters 44 = .ok (.goto (-34), 3) := by decide +kernel
theorem dX6_isByLetters_47 : decode cX6_isByLetters 47 = .ok (.aload_n 0, 1) := by decide +kernel
theorem dX6_isByLetters_48 : decode cX6_isByLetters 48 = .ok (.bipush 28, 2) := by decide +kernel
theorem dX6_isByLetters_50 : decode cX6_isByLetters 50 = .ok (.iload_n 2, 1) := by decide +kernel
theorem dX6_isByLetters_51 : decode cX6_isByLetters 51 = .ok (.invokevirtual 161, 3) := by decide +kernel
theorem dX6_isByLetters_54 : decode cX6_isByLetters 54 = .ok (.lload_n 3, 1) := by decide +kernel
theorem dX6_isByLetters_55 : decode cX6_isByLetters 55 = .ok (.lcmp, 1) := by decide +kernel
theorem dX6_isByLetters_56 : decode cX6_isByLetters 56 = .ok (.ifCond .ne 7, 3) := by decide +kernel
theorem dX6_isByLetters_59 : decode cX6_isByLetters 59 = .ok (.iconst 1, 1) := by decide +kernel
theorem dX6_isByLetters_60 : decode cX6_isByLetters 60 = .ok (.goto 4, 3) := by decide +kernel
theorem dX6_isByLetters_63 : decode cX6_isByLetters 63 = .ok (.iconst 0, 1) := by decide +kernel
theorem dX6_isByLetters_64 : decode cX6_isByLetters 64 = .ok (.ireturn, 1) := by decide +kernel
theorem dX6_needs_0 : decode cX6_needs 0 = .ok (.iload_n 1, 1) := by decide +kernel
theorem dX6_needs_1 : decode cX6_needs 1 = .ok (.invokestatic 131, 3) := by decide +kernel
theorem dX6_needs_4 : decode cX6_needs 4 = .ok (.ifCond .eq 22, 3) := by decide +kernel
theorem dX6_needs_7 : decode cX6_needs 7 = .ok (.iload_n 2, 1) := by decide +kernel
theorem dX6_needs_8 : decode cX6_needs 8 = .ok (.iload_n 3, 1) := by decide +kernel
theorem dX6_needs_9 : decode cX6_needs 9 = .ok (.invokestatic 135, 3) := by decide +kernel
theorem dX6_needs_12 : decode cX6_needs 12 = .ok (.ifCond .eq 14, 3) := by decide +kernel
theorem dX6_needs_15 : decode cX6_needs 15 = .ok (.iload 6, 2) := by decide +kernel
theorem dX6_needs_17 : decode cX6_needs 17 = .ok (.i2l, 1) := by decide +kernel
theorem dX6_needs_18 : decode cX6_needs 18 = .ok (.lconst 0, 1) := by decide +kernel
theorem dX6_needs_19 : decode cX6_needs 19 = .ok (.lconst 1, 1) := by decide +kernel
theorem dX6_needs_20 : decode cX6_needs 20 = .ok (.invokestatic 86, 3) := by decide +kernel
theorem dX6_needs_23 : decode cX6_needs 23 = .ok (.ifCond .ne 6, 3) := by decide +kernel
theorem dX6_needs_26 : decode cX6_needs 26 = .ok (.bipush (-2), 2) := by decide +kernel
theorem dX6_needs_28 : decode cX6_needs 28 = .ok (.ireturn, 1) := by decide +kernel
theorem dX6_needs_29 : decode cX6_needs 29 = .ok (.iconst 0, 1) := by decide +kernel
theorem dX6_needs_30 : decode cX6_needs 30 = .ok (.istore 7, 2) := by decide +kernel
theorem dX6_needs_32 : decode cX6_needs 32 = .ok (.iconst 0, 1) := by decide +kernel
theorem dX6_needs_33 : decode cX6_needs 33 = .ok (.istore 8, 2) := by decide +kernel
theorem dX6_needs_35 : decode cX6_needs 35 = .ok (.iload 8, 2) := by decide +kernel
theorem dX6_needs_37 : decode cX6_needs 37 = .ok (.aload_n 0, 1) := by decide +kernel
theorem dX6_needs_38 : decode cX6_needs 38 = .ok (.getfield 92, 3) := by decide +kernel
theorem dX6_needs_41 : decode cX6_needs 41 = .ok (.if_icmp .ge 29, 3) := by decide +kernel
theorem dX6_needs_44 : decode cX6_needs 44 = .ok (.aload_n 0, 1) := by decide +kernel
theorem dX6_needs_45 : decode cX6_needs 45 = .ok (.getfield 39, 3) := by decide +kernel
theorem dX6_needs_48 : decode cX6_needs 48 = .ok (.iload 8, 2) := by decide +kernel
theorem dX6_needs_50 : decode cX6_needs 50 = .ok (.iaload, 1) := by decide +kernel
theorem dX6_needs_51 : decode cX6_needs 51 = .ok (.iload_n 1, 1) := by decide +kernel
theorem dX6_needs_52 : decode cX6_needs 52 = .ok (.if_icmp .ne 12, 3) := by decide +kernel
theorem dX6_needs_55 : decode cX6_needs 55 = .ok (.iload 7, 2) := by decide +kernel
theorem dX6_needs_57 : decode cX6_needs 57 = .ok (.iconst 1, 1) := by decide +kernel
theorem dX6_needs_58 : decode cX6_needs 58 = .ok (.iload 8, 2) := by decide +kernel
theorem dX6_needs_60 : decode cX6_needs 60 = .ok (.ishl, 1) := by decide +kernel
theorem dX6_needs_61 : decode cX6_needs 61 = .ok (.ior, 1) := by decide +kernel
theorem dX6_needs_62 : decode cX6_needs 62 = .ok (.istore 7, 2) := by decide +kernel
theorem dX6_needs_64 : decode cX6_needs 64 = .ok (.iinc 8 1, 3) := by decide +kernel
theorem dX6_needs_67 : decode cX6_needs 67 = .ok (.goto (-32), 3) := by decide +kernel
theorem dX6_needs_70 : decode cX6_needs 70 = .ok (.iconst (-1), 1) := by decide +kernel
theorem dX6_needs_71 : decode cX6_needs 71 = .ok (.istore 8, 2) := by decide +kernel
theorem dX6_needs_73 : decode cX6_needs 73 = .ok (.iconst 0, 1) := by decide +kernel
theorem dX6_needs_74 : decode cX6_needs 74 = .ok (.istore 9, 2) := by decide +kernel
theorem dX6_needs_76 : decode cX6_needs 76 = .ok (.iload 9, 2) := by decide +kernel
theorem dX6_needs_78 : decode cX6_needs 78 = .ok (.iconst 1, 1) := by decide +kernel
theorem dX6_needs_79 : decode cX6_needs 79 = .ok (.aload_n 0, 1) := by decide +kernel
theorem dX6_needs_80 : decode cX6_needs 80 = .ok (.getfield 92, 3) := by decide +kernel
theorem dX6_needs_83 : decode cX6_needs 83 = .ok (.ishl, 1) := by decide +kernel
theorem dX6_needs_84 : decode cX6_needs 84 = .ok (.if_icmp .ge 62, 3) := by decide +kernel
theorem dX6_needs_87 : decode cX6_needs 87 = .ok (.iload 9, 2) := by decide +kernel
theorem dX6_needs_89 : decode cX6_needs 89 = .ok (.iload 7, 2) := by decide +kernel
theorem dX6_needs_91 : decode cX6_needs 91 = .ok (.iconst (-1), 1) := by decide +kernel
theorem dX6_needs_92 : decode cX6_needs 92 = .ok (.ixor, 1) := by decide +kernel
theorem dX6_needs_93 : decode cX6_needs 93 = .ok (.iand, 1) := by decide +kernel
theorem dX6_needs_94 : decode cX6_needs 94 = .ok (.ifCond .ne 46, 3) := by decide +kernel
theorem dX6_needs_97 : decode cX6_needs 97 = .ok (.iload 8, 2) := by decide +kernel
theorem dX6_needs_99 : decode cX6_needs 99 = .ok (.iconst (-1), 1) := by decide +kernel
theorem dX6_needs_100 : decode cX6_needs 100 = .ok (.if_icmp .eq 19, 3) := by decide +kernel
theorem dX6_needs_103 : decode cX6_needs 103 = .ok (.iload 9, 2) := by decide +kernel
theorem dX6_needs_105 : decode cX6_needs 105 = .ok (.invokestatic 104, 3) := by decide +kernel
theorem dX6_needs_108 : decode cX6_needs 108 = .ok (.iload 8, 2) := by decide +kernel
theorem dX6_needs_110 : decode cX6_needs 110 = .ok (.invokestatic 104, 3) := by decide +kernel
theorem dX6_needs_113 : decode cX6_needs 113 = .ok (.if_icmp .lt 6, 3) := by decide +kernel
theorem dX6_needs_116 : decode cX6_needs 116 = .ok (.goto 24, 3) := by decide +kernel
theorem dX6_needs_119 : decode cX6_needs 119 = .ok (.aload_n 0, 1) := by decide +kernel
theorem dX6_needs_120 : decode cX6_needs 120 = .ok (.iload_n 1, 1) := by decide +kernel
theorem dX6_needs_121 : decode cX6_needs 121 = .ok (.iconst 4, 1) := by decide +kernel
theorem dX6_needs_122 : decode cX6_needs 122 = .ok (.iload_n 2, 1) := by decide +kernel
theorem dX6_needs_123 : decode cX6_needs 123 = .ok (.imul, 1) := by decide +kernel
theorem dX6_needs_124 : decode cX6_needs 124 = .ok (.iload_n 3, 1) := by decide +kernel
theorem dX6_needs_125 : decode cX6_needs 125 = .ok (.iadd, 1) := by decide +kernel
theorem dX6_needs_126 : decode cX6_needs 126 = .ok (.lload 4, 2) := by decide +kernel
theorem dX6_needs_128 : decode cX6_needs 128 = .ok (.iload 9, 2) := by decide +kernel
theorem dX6_needs_130 : decode cX6_needs 130 = .ok (.invokevirtual 205, 3) := by decide +kernel
theorem dX6_needs_133 : decode cX6_needs 133 = .ok (.ifCond .eq 7, 3) := by decide +kernel
theorem dX6_needs_136 : decode cX6_needs 136 = .ok (.iload 9, 2) := by decide +kernel
theorem dX6_needs_138 : decode cX6_needs 138 = .ok (.istore 8, 2) := by decide +kernel
theorem dX6_needs_140 : decode cX6_needs 140 = .ok (.iinc 9 1, 3) := by decide +kernel
theorem dX6_needs_143 : decode cX6_needs 143 = .ok (.goto (-67), 3) := by decide +kernel
theorem dX6_needs_146 : decode cX6_needs 146 = .ok (.iload 8, 2) := by decide +kernel
theorem dX6_needs_148 : decode cX6_needs 148 = .ok (.iconst (-1), 1) := by decide +kernel
theorem dX6_needs_149 : decode cX6_needs 149 = .ok (.if_icmp .ne 7, 3) := by decide +kernel
theorem dX6_needs_152 : decode cX6_needs 152 = .ok (.iconst (-1), 1) := by decide +kernel
theorem dX6_needs_153 : decode cX6_needs 153 = .ok (.goto 18, 3) := by decide +kernel
theorem dX6_needs_156 : decode cX6_needs 156 = .ok (.iload 6, 2) := by decide +kernel
theorem dX6_needs_158 : decode cX6_needs 158 = .ok (.ifCond .ne 11, 3) := by decide +kernel
theorem dX6_needs_161 : decode cX6_needs 161 = .ok (.iload 8, 2) := by decide +kernel
theorem dX6_needs_163 : decode cX6_needs 163 = .ok (.invokestatic 104, 3) := by decide +kernel
theorem dX6_needs_166 : decode cX6_needs 166 = .ok (.goto 5, 3) := by decide +kernel
theorem dX6_needs_169 : decode cX6_needs 169 = .ok (.iload 8, 2) := by decide +kernel
theorem dX6_needs_171 : decode cX6_needs 171 = .ok (.ireturn, 1) := by decide +kernel
theorem dX6_alikeMet_0 : decode cX6_alikeMet 0 = .ok (.iconst 0, 1) := by decide +kernel
theorem dX6_alikeMet_1 : decode cX6_alikeMet 1 = .ok (.istore_n 2, 1) := by decide +kernel
theorem dX6_alikeMet_2 : decode cX6_alikeMet 2 = .ok (.iconst 0, 1) := by decide +kernel
theorem dX6_alikeMet_3 : decode cX6_alikeMet 3 = .ok (.istore_n 3, 1) := by decide +kernel
theorem dX6_alikeMet_4 : decode cX6_alikeMet 4 = .ok (.iload_n 3, 1) := by decide +kernel
theorem dX6_alikeMet_5 : decode cX6_alikeMet 5 = .ok (.iconst 4, 1) := by decide +kernel
theorem dX6_alikeMet_6 : decode cX6_alikeMet 6 = .ok (.if_icmp .ge 24, 3) := by decide +kernel
theorem dX6_alikeMet_9 : decode cX6_alikeMet 9 = .ok (.aload_n 0, 1) := by decide +kernel
theorem dX6_alikeMet_10 : decode cX6_alikeMet 10 = .ok (.iload_n 1, 1) := by decide +kernel
theorem dX6_alikeMet_11 : decode cX6_alikeMet 11 = .ok (.iload_n 3, 1) := by decide +kernel
theorem dX6_alikeMet_12 : decode cX6_alikeMet 12 = .ok (.iadd, 1) := by decide +kernel
theorem dX6_alikeMet_13 : decode cX6_alikeMet 13 = .ok (.bipush 26, 2) := by decide +kernel
theorem dX6_alikeMet_15 : decode cX6_alikeMet 15 = .ok (.invokevirtual 195, 3) := by decide +kernel
theorem dX6_alikeMet_18 : decode cX6_alikeMet 18 = .ok (.ifCond .eq 6, 3) := by decide +kernel
theorem dX6_alikeMet_21 : decode cX6_alikeMet 21 = .ok (.iinc 2 1, 3) := by decide +kernel
theorem dX6_alikeMet_24 : decode cX6_alikeMet 24 = .ok (.iinc 3 1, 3) := by decide +kernel
theorem dX6_alikeMet_27 : decode cX6_alikeMet 27 = .ok (.goto (-23), 3) := by decide +kernel
theorem dX6_alikeMet_30 : decode cX6_alikeMet 30 = .ok (.iload_n 2, 1) := by decide +kernel
theorem dX6_alikeMet_31 : decode cX6_alikeMet 31 = .ok (.ireturn, 1) := by decide +kernel
theorem dX6_byLot_0 : decode cX6_byLot 0 = .ok (.aload_n 0, 1) := by decide +kernel
theorem dX6_byLot_1 : decode cX6_byLot 1 = .ok (.invokevirtual 192, 3) := by decide +kernel
theorem dX6_byLot_4 : decode cX6_byLot 4 = .ok (.iconst 0, 1) := by decide +kernel
theorem dX6_byLot_5 : decode cX6_byLot 5 = .ok (.istore_n 3, 1) := by decide +kernel
theorem dX6_byLot_6 : decode cX6_byLot 6 = .ok (.iload_n 3, 1) := by decide +kernel
theorem dX6_byLot_7 : decode cX6_byLot 7 = .ok (.iconst 4, 1) := by decide +kernel
theorem dX6_byLot_8 : decode cX6_byLot 8 = .ok (.if_icmp .ge 18, 3) := by decide +kernel
theorem dX6_byLot_11 : decode cX6_byLot 11 = .ok (.aload_n 0, 1) := by decide +kernel
theorem dX6_byLot_12 : decode cX6_byLot 12 = .ok (.iload_n 3, 1) := by decide +kernel
theorem dX6_byLot_13 : decode cX6_byLot 13 = .ok (.bipush 28, 2) := by decide +kernel
theorem dX6_byLot_15 : decode cX6_byLot 15 = .ok (.iload_n 3, 1) := by decide +kernel
theorem dX6_byLot_16 : decode cX6_byLot 16 = .ok (.iadd, 1) := by decide +kernel
theorem dX6_byLot_17 : decode cX6_byLot 17 = .ok (.invokevirtual 110, 3) := by decide +kernel
theorem dX6_byLot_20 : decode cX6_byLot 20 = .ok (.iinc 3 1, 3) := by decide +kernel
theorem dX6_byLot_23 : decode cX6_byLot 23 = .ok (.goto (-17), 3) := by decide +kernel
theorem dX6_byLot_26 : decode cX6_byLot 26 = .ok (.iload_n 1, 1) := by decide +kernel
theorem dX6_byLot_27 : decode cX6_byLot 27 = .ok (.istore_n 3, 1) := by decide +kernel
theorem dX6_byLot_28 : decode cX6_byLot 28 = .ok (.iconst 0, 1) := by decide +kernel
theorem dX6_byLot_29 : decode cX6_byLot 29 = .ok (.istore 4, 2) := by decide +kernel
theorem dX6_byLot_31 : decode cX6_byLot 31 = .ok (.iload 4, 2) := by decide +kernel
theorem dX6_byLot_33 : decode cX6_byLot 33 = .ok (.iload_n 2, 1) := by decide +kernel
theorem dX6_byLot_34 : decode cX6_byLot 34 = .ok (.if_icmp .ge 53, 3) := by decide +kernel
theorem dX6_byLot_37 : decode cX6_byLot 37 = .ok (.iload_n 3, 1) := by decide +kernel
theorem dX6_byLot_38 : decode cX6_byLot 38 = .ok (.ldc 209, 2) := by decide +kernel
theorem dX6_byLot_40 : decode cX6_byLot 40 = .ok (.imul, 1) := by decide +kernel
theorem dX6_byLot_41 : decode cX6_byLot 41 = .ok (.sipush 12345, 3) := by decide +kernel
theorem dX6_byLot_44 : decode cX6_byLot 44 = .ok (.iadd, 1) := by decide +kernel
theorem dX6_byLot_45 : decode cX6_byLot 45 = .ok (.istore_n 3, 1) := by decide +kernel
theorem dX6_byLot_46 : decode cX6_byLot 46 = .ok (.iload_n 3, 1) := by decide +kernel
theorem dX6_byLot_47 : decode cX6_byLot 47 = .ok (.bipush 9, 2) := by decide +kernel
theorem dX6_byLot_49 : decode cX6_byLot 49 = .ok (.iushr, 1) := by decide +kernel
theorem dX6_byLot_50 : decode cX6_byLot 50 = .ok (.iconst 4, 1) := by decide +kernel
theorem dX6_byLot_51 : decode cX6_byLot 51 = .ok (.irem, 1) := by decide +kernel
theorem dX6_byLot_52 : decode cX6_byLot 52 = .ok (.istore 5, 2) := by decide +kernel
theorem dX6_byLot_54 : decode cX6_byLot 54 = .ok (.iload_n 3, 1) := by decide +kernel
theorem dX6_byLot_55 : decode cX6_byLot 55 = .ok (.ldc 209, 2) := by decide +kernel
theorem dX6_byLot_57 : decode cX6_byLot 57 = .ok (.imul, 1) := by decide +kernel
theorem dX6_byLot_58 : decode cX6_byLot 58 = .ok (.sipush 12345, 3) := by decide +kernel
theorem dX6_byLot_61 : decode cX6_byLot 61 = .ok (.iadd, 1) := by decide +kernel
theorem dX6_byLot_62 : decode cX6_byLot 62 = .ok (.istore_n 3, 1) := by decide +kernel
theorem dX6_byLot_63 : decode cX6_byLot 63 = .ok (.aload_n 0, 1) := by decide +kernel
theorem dX6_byLot_64 : decode cX6_byLot 64 = .ok (.bipush 28, 2) := by decide +kernel
theorem dX6_byLot_66 : decode cX6_byLot 66 = .ok (.iload_n 3, 1) := by decide +kernel
theorem dX6_byLot_67 : decode cX6_byLot 67 = .ok (.bipush 9, 2) := by decide +kernel
theorem dX6_byLot_69 : decode cX6_byLot 69 = .ok (.iushr, 1) := by decide +kernel
theorem dX6_byLot_70 : decode cX6_byLot 70 = .ok (.iconst 4, 1) := by decide +kernel
theorem dX6_byLot_71 : decode cX6_byLot 71 = .ok (.irem, 1) := by decide +kernel
theorem dX6_byLot_72 : decode cX6_byLot 72 = .ok (.iadd, 1) := by decide +kernel
theorem dX6_byLot_73 : decode cX6_byLot 73 = .ok (.bipush 28, 2) := by decide +kernel
theorem dX6_byLot_75 : decode cX6_byLot 75 = .ok (.iload 5, 2) := by decide +kernel
theorem dX6_byLot_77 : decode cX6_byLot 77 = .ok (.iadd, 1) := by decide +kernel
theorem dX6_byLot_78 : decode cX6_byLot 78 = .ok (.invokevirtual 114, 3) := by decide +kernel
theorem dX6_byLot_81 : decode cX6_byLot 81 = .ok (.iinc 4 1, 3) := by decide +kernel
theorem dX6_byLot_84 : decode cX6_byLot 84 = .ok (.goto (-53), 3) := by decide +kernel
theorem dX6_byLot_87 : decode cX6_byLot 87 = .ok (.aload_n 0, 1) := by decide +kernel
theorem dX6_byLot_88 : decode cX6_byLot 88 = .ok (.bipush 28, 2) := by decide +kernel
theorem dX6_byLot_90 : decode cX6_byLot 90 = .ok (.invokevirtual 210, 3) := by decide +kernel
theorem dX6_byLot_93 : decode cX6_byLot 93 = .ok (.ireturn, 1) := by decide +kernel
theorem dX6_drawn_0 : decode cX6_drawn 0 = .ok (.iload_n 2, 1) := by decide +kernel
theorem dX6_drawn_1 : decode cX6_drawn 1 = .ok (.i2l, 1) := by decide +kernel
theorem dX6_drawn_2 : decode cX6_drawn 2 = .ok (.lconst 0, 1) := by decide +kernel
theorem dX6_drawn_3 : decode cX6_drawn 3 = .ok (.ldc2_w 213, 3) := by decide +kernel
theorem dX6_drawn_6 : decode cX6_drawn 6 = .ok (.invokestatic 86, 3) := by decide +kernel
theorem dX6_drawn_9 : decode cX6_drawn 9 = .ok (.ifCond .eq 12, 3) := by decide +kernel
theorem dX6_drawn_12 : decode cX6_drawn 12 = .ok (.aload_n 0, 1) := by decide +kernel
theorem dX6_drawn_13 : decode cX6_drawn 13 = .ok (.iload_n 1, 1) := by decide +kernel
theorem dX6_drawn_14 : decode cX6_drawn 14 = .ok (.iload_n 2, 1) := by decide +kernel
theorem dX6_drawn_15 : decode cX6_drawn 15 = .ok (.invokevirtual 215, 3) := by decide +kernel
theorem dX6_drawn_18 : decode cX6_drawn 18 = .ok (.goto 5, 3) := by decide +kernel
theorem dX6_drawn_21 : decode cX6_drawn 21 = .ok (.bipush (-2), 2) := by decide +kernel
theorem dX6_drawn_23 : decode cX6_drawn 23 = .ok (.ireturn, 1) := by decide +kernel
theorem dX6_common_0 : decode cX6_common 0 = .ok (.iload_n 1, 1) := by decide +kernel
theorem dX6_common_1 : decode cX6_common 1 = .ok (.ifCond .ne 7, 3) := by decide +kernel
theorem dX6_common_4 : decode cX6_common 4 = .ok (.iload_n 0, 1) := by decide +kernel
theorem dX6_common_5 : decode cX6_common 5 = .ok (.goto 10, 3) := by decide +kernel
theorem dX6_common_8 : decode cX6_common 8 = .ok (.iload_n 1, 1) := by decide +kernel
theorem dX6_common_9 : decode cX6_common 9 = .ok (.iload_n 0, 1) := by decide +kernel
theorem dX6_common_10 : decode cX6_common 10 = .ok (.iload_n 1, 1) := by decide +kernel
theorem dX6_common_11 : decode cX6_common 11 = .ok (.irem, 1) := by decide +kernel
theorem dX6_common_12 : decode cX6_common 12 = .ok (.invokestatic 218, 3) := by decide +kernel
theorem dX6_common_15 : decode cX6_common 15 = .ok (.ireturn, 1) := by decide +kernel
theorem dX6_chance_0 : decode cX6_chance 0 = .ok (.iload_n 2, 1) := by decide +kernel
theorem dX6_chance_1 : decode cX6_chance 1 = .ok (.i2l, 1) := by decide +kernel
theorem dX6_chance_2 : decode cX6_chance 2 = .ok (.lconst 1, 1) := by decide +kernel
theorem dX6_chance_3 : decode cX6_chance 3 = .ok (.ldc2_w 221, 3) := by decide +kernel
theorem dX6_chance_6 : decode cX6_chance 6 = .ok (.invokestatic 86, 3) := by decide +kernel
theorem dX6_chance_9 : decode cX6_chance 9 = .ok (.ifCond .eq 13, 3) := by decide +kernel
theorem dX6_chance_12 : decode cX6_chance 12 = .ok (.iload_n 3, 1) := by decide +kernel
theorem dX6_chance_13 : decode cX6_chance 13 = .ok (.i2l, 1) := by decide +kernel
theorem dX6_chance_14 : decode cX6_chance 14 = .ok (.lconst 0, 1) := by decide +kernel
theorem dX6_chance_15 : decode cX6_chance 15 = .ok (.lconst 1, 1) := by decide +kernel
theorem dX6_chance_16 : decode cX6_chance 16 = .ok (.invokestatic 86, 3) := by decide +kernel
theorem dX6_chance_19 : decode cX6_chance 19 = .ok (.ifCond .ne 6, 3) := by decide +kernel
theorem dX6_chance_22 : decode cX6_chance 22 = .ok (.bipush (-2), 2) := by decide +kernel
theorem dX6_chance_24 : decode cX6_chance 24 = .ok (.ireturn, 1) := by decide +kernel
theorem dX6_chance_25 : decode cX6_chance 25 = .ok (.iconst 0, 1) := by decide +kernel
theorem dX6_chance_26 : decode cX6_chance 26 = .ok (.istore 4, 2) := by decide +kernel
theorem dX6_chance_28 : decode cX6_chance 28 = .ok (.iconst 0, 1) := by decide +kernel
theorem dX6_chance_29 : decode cX6_chance 29 = .ok (.istore 5, 2) := by decide +kernel
theorem dX6_chance_31 : decode cX6_chance 31 = .ok (.iload 5, 2) := by decide +kernel
theorem dX6_chance_33 : decode cX6_chance 33 = .ok (.iload_n 2, 1) := by decide +kernel
theorem dX6_chance_34 : decode cX6_chance 34 = .ok (.if_icmp .ge 26, 3) := by decide +kernel
theorem dX6_chance_37 : decode cX6_chance 37 = .ok (.aload_n 0, 1) := by decide +kernel
theorem dX6_chance_38 : decode cX6_chance 38 = .ok (.iload_n 1, 1) := by decide +kernel
theorem dX6_chance_39 : decode cX6_chance 39 = .ok (.iload 5, 2) := by decide +kernel
theorem dX6_chance_41 : decode cX6_chance 41 = .ok (.iadd, 1) := by decide +kernel
theorem dX6_chance_42 : decode cX6_chance 42 = .ok (.bipush 8, 2) := by decide +kernel
theorem dX6_chance_44 : decode cX6_chance 44 = .ok (.invokevirtual 215, 3) := by decide +kernel
theorem dX6_chance_47 : decode cX6_chance 47 = .ok (.iconst 4, 1) := by decide +kernel
theorem dX6_chance_48 : decode cX6_chance 48 = .ok (.if_icmp .ne 6, 3) := by decide +kernel
theorem dX6_chance_51 : decode cX6_chance 51 = .ok (.iinc 4 1, 3) := by decide +kernel
theorem dX6_chance_54 : decode cX6_chance 54 = .ok (.iinc 5 1, 3) := by decide +kernel
theorem dX6_chance_57 : decode cX6_chance 57 = .ok (.goto (-26), 3) := by decide +kernel
theorem dX6_chance_60 : decode cX6_chance 60 = .ok (.iload_n 3, 1) := by decide +kernel
theorem dX6_chance_61 : decode cX6_chance 61 = .ok (.ifCond .ne 8, 3) := by decide +kernel
theorem dX6_chance_64 : decode cX6_chance 64 = .ok (.iload 4, 2) := by decide +kernel
theorem dX6_chance_66 : decode cX6_chance 66 = .ok (.goto 4, 3) := by decide +kernel
theorem dX6_chance_69 : decode cX6_chance 69 = .ok (.iload_n 2, 1) := by decide +kernel
theorem dX6_chance_70 : decode cX6_chance 70 = .ok (.iload 4, 2) := by decide +kernel
theorem dX6_chance_72 : decode cX6_chance 72 = .ok (.iload_n 2, 1) := by decide +kernel
theorem dX6_chance_73 : decode cX6_chance 73 = .ok (.invokestatic 218, 3) := by decide +kernel
theorem dX6_chance_76 : decode cX6_chance 76 = .ok (.idiv, 1) := by decide +kernel
theorem dX6_chance_77 : decode cX6_chance 77 = .ok (.ireturn, 1) := by decide +kernel
theorem dX6_otherwise_0 : decode cX6_otherwise 0 = .ok (.iconst 0, 1) := by decide +kernel
theorem dX6_otherwise_1 : decode cX6_otherwise 1 = .ok (.istore 4, 2) := by decide +kernel
theorem dX6_otherwise_3 : decode cX6_otherwise 3 = .ok (.iload 4, 2) := by decide +kernel
theorem dX6_otherwise_5 : decode cX6_otherwise 5 = .ok (.aload_n 0, 1) := by decide +kernel
theorem dX6_otherwise_6 : decode cX6_otherwise 6 = .ok (.getfield 75, 3) := by decide +kernel
theorem dX6_otherwise_9 : decode cX6_otherwise 9 = .ok (.iload_n 1, 1) := by decide +kernel
theorem dX6_otherwise_10 : decode cX6_otherwise 10 = .ok (.iaload, 1) := by decide +kernel
theorem dX6_otherwise_11 : decode cX6_otherwise 11 = .ok (.if_icmp .ge 36, 3) := by decide +kernel
theorem dX6_otherwise_14 : decode cX6_otherwise 14 = .ok (.aload_n 0, 1) := by decide +kernel
theorem dX6_otherwise_15 : decode cX6_otherwise 15 = .ok (.iload_n 2, 1) := by decide +kernel
theorem dX6_otherwise_16 : decode cX6_otherwise 16 = .ok (.iconst 4, 1) := by decide +kernel
theorem dX6_otherwise_17 : decode cX6_otherwise 17 = .ok (.iload_n 3, 1) := by decide +kernel
theorem dX6_otherwise_18 : decode cX6_otherwise 18 = .ok (.imul, 1) := by decide +kernel
theorem dX6_otherwise_19 : decode cX6_otherwise 19 = .ok (.iload 4, 2) := by decide +kernel
theorem dX6_otherwise_21 : decode cX6_otherwise 21 = .ok (.iadd, 1) := by decide +kernel
theorem dX6_otherwise_22 : decode cX6_otherwise 22 = .ok (.invokevirtual 161, 3) := by decide +kernel
theorem dX6_otherwise_25 : decode cX6_otherwise 25 = .ok (.l2i, 1) := by decide +kernel
theorem dX6_otherwise_26 : decode cX6_otherwise 26 = .ok (.aload_n 0, 1) := by decide +kernel
theorem dX6_otherwise_27 : decode cX6_otherwise 27 = .ok (.getfield 78, 3) := by decide +kernel
theorem dX6_otherwise_30 : decode cX6_otherwise 30 = .ok (.iload_n 1, 1) := by decide +kernel
theorem dX6_otherwise_31 : decode cX6_otherwise 31 = .ok (.aaload, 1) := by decide +kernel
theorem dX6_otherwise_32 : decode cX6_otherwise 32 = .ok (.iload 4, 2) := by decide +kernel
theorem dX6_otherwise_34 : decode cX6_otherwise 34 = .ok (.iaload, 1) := by decide +kernel
theorem dX6_otherwise_35 : decode cX6_otherwise 35 = .ok (.if_icmp .eq 6, 3) := by decide +kernel
theorem dX6_otherwise_38 : decode cX6_otherwise 38 = .ok (.iload 4, 2) := by decide +kernel
theorem dX6_otherwise_40 : decode cX6_otherwise 40 = .ok (.ireturn, 1) := by decide +kernel
theorem dX6_otherwise_41 : decode cX6_otherwise 41 = .ok (.iinc 4 1, 3) := by decide +kernel
theorem dX6_otherwise_44 : decode cX6_otherwise 44 = .ok (.goto (-41), 3) := by decide +kernel
theorem dX6_otherwise_47 : decode cX6_otherwise 47 = .ok (.iconst (-1), 1) := by decide +kernel
theorem dX6_otherwise_48 : decode cX6_otherwise 48 = .ok (.ireturn, 1) := by decide +kernel
theorem dX6_kindsBy_0 : decode cX6_kindsBy 0 = .ok (.aload_n 0, 1) := by decide +kernel
theorem dX6_kindsBy_1 : decode cX6_kindsBy 1 = .ok (.getfield 24, 3) := by decide +kernel
theorem dX6_kindsBy_4 : decode cX6_kindsBy 4 = .ok (.iconst 4, 1) := by decide +kernel
theorem dX6_kindsBy_5 : decode cX6_kindsBy 5 = .ok (.iload_n 3, 1) := by decide +kernel
theorem dX6_kindsBy_6 : decode cX6_kindsBy 6 = .ok (.imul, 1) := by decide +kernel
theorem dX6_kindsBy_7 : decode cX6_kindsBy 7 = .ok (.iaload, 1) := by decide +kernel
theorem dX6_kindsBy_8 : decode cX6_kindsBy 8 = .ok (.istore 4, 2) := by decide +kernel
theorem dX6_kindsBy_10 : decode cX6_kindsBy 10 = .ok (.iconst 0, 1) := by decide +kernel
theorem dX6_kindsBy_11 : decode cX6_kindsBy 11 = .ok (.istore 5, 2) := by decide +kernel
theorem dX6_kindsBy_13 : decode cX6_kindsBy 13 = .ok (.iconst 0, 1) := by decide +kernel
theorem dX6_kindsBy_14 : decode cX6_kindsBy 14 = .ok (.istore 6, 2) := by decide +kernel
theorem dX6_kindsBy_16 : decode cX6_kindsBy 16 = .ok (.iload 6, 2) := by decide +kernel
theorem dX6_kindsBy_18 : decode cX6_kindsBy 18 = .ok (.bipush 6, 2) := by decide +kernel
theorem dX6_kindsBy_20 : decode cX6_kindsBy 20 = .ok (.if_icmp .ge 39, 3) := by decide +kernel
theorem dX6_kindsBy_23 : decode cX6_kindsBy 23 = .ok (.aload_n 0, 1) := by decide +kernel
theorem dX6_kindsBy_24 : decode cX6_kindsBy 24 = .ok (.getfield 24, 3) := by decide +kernel
theorem dX6_kindsBy_27 : decode cX6_kindsBy 27 = .ok (.iconst 4, 1) := by decide +kernel
theorem dX6_kindsBy_28 : decode cX6_kindsBy 28 = .ok (.iload_n 3, 1) := by decide +kernel
theorem dX6_kindsBy_29 : decode cX6_kindsBy 29 = .ok (.imul, 1) := by decide +kernel
theorem dX6_kindsBy_30 : decode cX6_kindsBy 30 = .ok (.iload 6, 2) := by decide +kernel
theorem dX6_kindsBy_32 : decode cX6_kindsBy 32 = .ok (.iastore, 1) := by decide +kernel
theorem dX6_kindsBy_33 : decode cX6_kindsBy 33 = .ok (.aload_n 0, 1) := by decide +kernel
theorem dX6_kindsBy_34 : decode cX6_kindsBy 34 = .ok (.iload_n 1, 1) := by decide +kernel
theorem dX6_kindsBy_35 : decode cX6_kindsBy 35 = .ok (.iload_n 2, 1) := by decide +kernel
theorem dX6_kindsBy_36 : decode cX6_kindsBy 36 = .ok (.iload_n 3, 1) := by decide +kernel
theorem dX6_kindsBy_37 : decode cX6_kindsBy 37 = .ok (.invokevirtual 223, 3) := by decide +kernel
theorem dX6_kindsBy_40 : decode cX6_kindsBy 40 = .ok (.iconst (-1), 1) := by decide +kernel
theorem dX6_kindsBy_41 : decode cX6_kindsBy 41 = .ok (.if_icmp .ne 12, 3) := by decide +kernel
theorem dX6_kindsBy_44 : decode cX6_kindsBy 44 = .ok (.iload 5, 2) := by decide +kernel
theorem dX6_kindsBy_46 : decode cX6_kindsBy 46 = .ok (.iconst 1, 1) := by decide +kernel
theorem dX6_kindsBy_47 : decode cX6_kindsBy 47 = .ok (.iload 6, 2) := by decide +kernel
theorem dX6_kindsBy_49 : decode cX6_kindsBy 49 = .ok (.ishl, 1) := by decide +kernel
theorem dX6_kindsBy_50 : decode cX6_kindsBy 50 = .ok (.ior, 1) := by decide +kernel
theorem dX6_kindsBy_51 : decode cX6_kindsBy 51 = .ok (.istore 5, 2) := by decide +kernel
theorem dX6_kindsBy_53 : decode cX6_kindsBy 53 = .ok (.iinc 6 1, 3) := by decide +kernel
theorem dX6_kindsBy_56 : decode cX6_kindsBy 56 = .ok (.goto (-40), 3) := by decide +kernel
theorem dX6_kindsBy_59 : decode cX6_kindsBy 59 = .ok (.aload_n 0, 1) := by decide +kernel
theorem dX6_kindsBy_60 : decode cX6_kindsBy 60 = .ok (.getfield 24, 3) := by decide +kernel
theorem dX6_kindsBy_63 : decode cX6_kindsBy 63 = .ok (.iconst 4, 1) := by decide +kernel
theorem dX6_kindsBy_64 : decode cX6_kindsBy 64 = .ok (.iload_n 3, 1) := by decide +kernel
theorem dX6_kindsBy_65 : decode cX6_kindsBy 65 = .ok (.imul, 1) := by decide +kernel
theorem dX6_kindsBy_66 : decode cX6_kindsBy 66 = .ok (.iload 4, 2) := by decide +kernel
theorem dX6_kindsBy_68 : decode cX6_kindsBy 68 = .ok (.iastore, 1) := by decide +kernel
theorem dX6_kindsBy_69 : decode cX6_kindsBy 69 = .ok (.iload 5, 2) := by decide +kernel
theorem dX6_kindsBy_71 : decode cX6_kindsBy 71 = .ok (.ireturn, 1) := by decide +kernel
theorem dX6_tells_0 : decode cX6_tells 0 = .ok (.iload_n 1, 1) := by decide +kernel
theorem dX6_tells_1 : decode cX6_tells 1 = .ok (.invokestatic 227, 3) := by decide +kernel
theorem dX6_tells_4 : decode cX6_tells 4 = .ok (.ifCond .eq 31, 3) := by decide +kernel
theorem dX6_tells_7 : decode cX6_tells 7 = .ok (.iload_n 2, 1) := by decide +kernel
theorem dX6_tells_8 : decode cX6_tells 8 = .ok (.invokestatic 131, 3) := by decide +kernel
theorem dX6_tells_11 : decode cX6_tells 11 = .ok (.ifCond .eq 24, 3) := by decide +kernel
theorem dX6_tells_14 : decode cX6_tells 14 = .ok (.iload_n 3, 1) := by decide +kernel
theorem dX6_tells_15 : decode cX6_tells 15 = .ok (.iconst 0, 1) := by decide +kernel
theorem dX6_tells_16 : decode cX6_tells 16 = .ok (.invokestatic 135, 3) := by decide +kernel
theorem dX6_tells_19 : decode cX6_tells 19 = .ok (.ifCond .eq 16, 3) := by decide +kernel
theorem dX6_tells_22 : decode cX6_tells 22 = .ok (.iload 4, 2) := by decide +kernel
theorem dX6_tells_24 : decode cX6_tells 24 = .ok (.i2l, 1) := by decide +kernel
theorem dX6_tells_25 : decode cX6_tells 25 = .ok (.lconst 0, 1) := by decide +kernel
theorem dX6_tells_26 : decode cX6_tells 26 = .ok (.ldc2_w 84, 3) := by decide +kernel
theorem dX6_tells_29 : decode cX6_tells 29 = .ok (.invokestatic 86, 3) := by decide +kernel
theorem dX6_tells_32 : decode cX6_tells 32 = .ok (.ifCond .ne 6, 3) := by decide +kernel
theorem dX6_tells_35 : decode cX6_tells 35 = .ok (.bipush (-2), 2) := by decide +kernel
theorem dX6_tells_37 : decode cX6_tells 37 = .ok (.ireturn, 1) := by decide +kernel
theorem dX6_tells_38 : decode cX6_tells 38 = .ok (.aload_n 0, 1) := by decide +kernel
theorem dX6_tells_39 : decode cX6_tells 39 = .ok (.getfield 72, 3) := by decide +kernel
theorem dX6_tells_42 : decode cX6_tells 42 = .ok (.iload_n 1, 1) := by decide +kernel
theorem dX6_tells_43 : decode cX6_tells 43 = .ok (.iaload, 1) := by decide +kernel
theorem dX6_tells_44 : decode cX6_tells 44 = .ok (.ifCond .ge 6, 3) := by decide +kernel
theorem dX6_tells_47 : decode cX6_tells 47 = .ok (.bipush (-11), 2) := by decide +kernel
theorem dX6_tells_49 : decode cX6_tells 49 = .ok (.ireturn, 1) := by decide +kernel
theorem dX6_tells_50 : decode cX6_tells 50 = .ok (.aload_n 0, 1) := by decide +kernel
theorem dX6_tells_51 : decode cX6_tells 51 = .ok (.getfield 75, 3) := by decide +kernel
theorem dX6_tells_54 : decode cX6_tells 54 = .ok (.iload_n 1, 1) := by decide +kernel
theorem dX6_tells_55 : decode cX6_tells 55 = .ok (.iaload, 1) := by decide +kernel
theorem dX6_tells_56 : decode cX6_tells 56 = .ok (.iconst 4, 1) := by decide +kernel
theorem dX6_tells_57 : decode cX6_tells 57 = .ok (.if_icmp .gt 18, 3) := by decide +kernel
theorem dX6_tells_60 : decode cX6_tells 60 = .ok (.iload 4, 2) := by decide +kernel
theorem dX6_tells_62 : decode cX6_tells 62 = .ok (.iconst 2, 1) := by decide +kernel
theorem dX6_tells_63 : decode cX6_tells 63 = .ok (.if_icmp .ne 15, 3) := by decide +kernel
theorem dX6_tells_66 : decode cX6_tells 66 = .ok (.aload_n 0, 1) := by decide +kernel
theorem dX6_tells_67 : decode cX6_tells 67 = .ok (.getfield 75, 3) := by decide +kernel
theorem dX6_tells_70 : decode cX6_tells 70 = .ok (.iload_n 1, 1) := by decide +kernel
theorem dX6_tells_71 : decode cX6_tells 71 = .ok (.iaload, 1) := by decide +kernel
theorem dX6_tells_72 : decode cX6_tells 72 = .ok (.ifCond .ne 6, 3) := by decide +kernel
theorem dX6_tells_75 : decode cX6_tells 75 = .ok (.bipush (-2), 2) := by decide +kernel
theorem dX6_tells_77 : decode cX6_tells 77 = .ok (.ireturn, 1) := by decide +kernel
theorem dX6_tells_78 : decode cX6_tells 78 = .ok (.iload 4, 2) := by decide +kernel
theorem dX6_tells_80 : decode cX6_tells 80 = .ok (.ifCond .ne 11, 3) := by decide +kernel
theorem dX6_tells_83 : decode cX6_tells 83 = .ok (.aload_n 0, 1) := by decide +kernel
theorem dX6_tells_84 : decode cX6_tells 84 = .ok (.iload_n 1, 1) := by decide +kernel
theorem dX6_tells_85 : decode cX6_tells 85 = .ok (.iload_n 2, 1) := by decide +kernel
theorem dX6_tells_86 : decode cX6_tells 86 = .ok (.iload_n 3, 1) := by decide +kernel
theorem dX6_tells_87 : decode cX6_tells 87 = .ok (.invokevirtual 223, 3) := by decide +kernel
theorem dX6_tells_90 : decode cX6_tells 90 = .ok (.ireturn, 1) := by decide +kernel
theorem dX6_tells_91 : decode cX6_tells 91 = .ok (.iload 4, 2) := by decide +kernel
theorem dX6_tells_93 : decode cX6_tells 93 = .ok (.iconst 2, 1) := by decide +kernel
theorem dX6_tells_94 : decode cX6_tells 94 = .ok (.if_icmp .ne 11, 3) := by decide +kernel
theorem dX6_tells_97 : decode cX6_tells 97 = .ok (.aload_n 0, 1) := by decide +kernel
theorem dX6_tells_98 : decode cX6_tells 98 = .ok (.iload_n 1, 1) := by decide +kernel
theorem dX6_tells_99 : decode cX6_tells 99 = .ok (.iload_n 2, 1) := by decide +kernel
theorem dX6_tells_100 : decode cX6_tells 100 = .ok (.iload_n 3, 1) := by decide +kernel
theorem dX6_tells_101 : decode cX6_tells 101 = .ok (.invokevirtual 230, 3) := by decide +kernel
theorem dX6_tells_104 : decode cX6_tells 104 = .ok (.ireturn, 1) := by decide +kernel
theorem dX6_tells_105 : decode cX6_tells 105 = .ok (.iconst 0, 1) := by decide +kernel
theorem dX6_tells_106 : decode cX6_tells 106 = .ok (.istore 5, 2) := by decide +kernel
theorem dX6_tells_108 : decode cX6_tells 108 = .ok (.iconst 0, 1) := by decide +kernel
theorem dX6_tells_109 : decode cX6_tells 109 = .ok (.istore 6, 2) := by decide +kernel
theorem dX6_tells_111 : decode cX6_tells 111 = .ok (.iload 4, 2) := by decide +kernel
theorem dX6_tells_113 : decode cX6_tells 113 = .ok (.iconst 1, 1) := by decide +kernel
theorem dX6_tells_114 : decode cX6_tells 114 = .ok (.if_icmp .ne 36, 3) := by decide +kernel
theorem dX6_tells_117 : decode cX6_tells 117 = .ok (.iload 6, 2) := by decide +kernel
theorem dX6_tells_119 : decode cX6_tells 119 = .ok (.iconst 4, 1) := by decide +kernel
theorem dX6_tells_120 : decode cX6_tells 120 = .ok (.if_icmp .ge 30, 3) := by decide +kernel
theorem dX6_tells_123 : decode cX6_tells 123 = .ok (.aload_n 0, 1) := by decide +kernel
theorem dX6_tells_124 : decode cX6_tells 124 = .ok (.iload_n 1, 1) := by decide +kernel
theorem dX6_tells_125 : decode cX6_tells 125 = .ok (.iload 6, 2) := by decide +kernel
theorem dX6_tells_127 : decode cX6_tells 127 = .ok (.iload_n 3, 1) := by decide +kernel
theorem dX6_tells_128 : decode cX6_tells 128 = .ok (.invokevirtual 223, 3) := by decide +kernel
theorem dX6_tells_131 : decode cX6_tells 131 = .ok (.iconst (-1), 1) := by decide +kernel
theorem dX6_tells_132 : decode cX6_tells 132 = .ok (.if_icmp .ne 12, 3) := by decide +kernel
theorem dX6_tells_135 : decode cX6_tells 135 = .ok (.iload 5, 2) := by decide +kernel
theorem dX6_tells_137 : decode cX6_tells 137 = .ok (.iconst 1, 1) := by decide +kernel
theorem dX6_tells_138 : decode cX6_tells 138 = .ok (.iload 6, 2) := by decide +kernel
theorem dX6_tells_140 : decode cX6_tells 140 = .ok (.ishl, 1) := by decide +kernel
theorem dX6_tells_141 : decode cX6_tells 141 = .ok (.ior, 1) := by decide +kernel
theorem dX6_tells_142 : decode cX6_tells 142 = .ok (.istore 5, 2) := by decide +kernel
theorem dX6_tells_144 : decode cX6_tells 144 = .ok (.iinc 6 1, 3) := by decide +kernel
theorem dX6_tells_147 : decode cX6_tells 147 = .ok (.goto (-36), 3) := by decide +kernel
theorem dX6_tells_150 : decode cX6_tells 150 = .ok (.iconst 0, 1) := by decide +kernel
theorem dX6_tells_151 : decode cX6_tells 151 = .ok (.istore 6, 2) := by decide +kernel
theorem dX6_tells_153 : decode cX6_tells 153 = .ok (.iload 4, 2) := by decide +kernel
theorem dX6_tells_155 : decode cX6_tells 155 = .ok (.iconst 3, 1) := by decide +kernel
theorem dX6_tells_156 : decode cX6_tells 156 = .ok (.if_icmp .ne 71, 3) := by decide +kernel
theorem dX6_tells_159 : decode cX6_tells 159 = .ok (.iload 6, 2) := by decide +kernel
theorem dX6_tells_161 : decode cX6_tells 161 = .ok (.aload_n 0, 1) := by decide +kernel
theorem dX6_tells_162 : decode cX6_tells 162 = .ok (.getfield 92, 3) := by decide +kernel
theorem dX6_tells_165 : decode cX6_tells 165 = .ok (.if_icmp .ge 62, 3) := by decide +kernel
theorem dX6_tells_168 : decode cX6_tells 168 = .ok (.aload_n 0, 1) := by decide +kernel
theorem dX6_tells_169 : decode cX6_tells 169 = .ok (.getfield 39, 3) := by decide +kernel
theorem dX6_tells_172 : decode cX6_tells 172 = .ok (.iload 6, 2) := by decide +kernel
theorem dX6_tells_174 : decode cX6_tells 174 = .ok (.iaload, 1) := by decide +kernel
theorem dX6_tells_175 : decode cX6_tells 175 = .ok (.iload_n 2, 1) := by decide +kernel
theorem dX6_tells_176 : decode cX6_tells 176 = .ok (.if_icmp .eq 6, 3) := by decide +kernel
theorem dX6_tells_179 : decode cX6_tells 179 = .ok (.goto 42, 3) := by decide +kernel
theorem dX6_tells_182 : decode cX6_tells 182 = .ok (.aload_n 0, 1) := by decide +kernel
theorem dX6_tells_183 : decode cX6_tells 183 = .ok (.iload_n 2, 1) := by decide +kernel
theorem dX6_tells_184 : decode cX6_tells 184 = .ok (.bipush 28, 2) := by decide +kernel
theorem dX6_tells_186 : decode cX6_tells 186 = .ok (.invokevirtual 110, 3) := by decide +kernel
theorem dX6_tells_189 : decode cX6_tells 189 = .ok (.aload_n 0, 1) := by decide +kernel
theorem dX6_tells_190 : decode cX6_tells 190 = .ok (.bipush 28, 2) := by decide +kernel
theorem dX6_tells_192 : decode cX6_tells 192 = .ok (.bipush 20, 2) := by decide +kernel
theorem dX6_tells_194 : decode cX6_tells 194 = .ok (.iload 6, 2) := by decide +kernel
theorem dX6_tells_196 : decode cX6_tells 196 = .ok (.iadd, 1) := by decide +kernel
theorem dX6_tells_197 : decode cX6_tells 197 = .ok (.invokevirtual 114, 3) := by decide +kernel
theorem dX6_tells_200 : decode cX6_tells 200 = .ok (.aload_n 0, 1) := by decide +kernel
theorem dX6_tells_201 : decode cX6_tells 201 = .ok (.iload_n 1, 1) := by decide +kernel
theorem dX6_tells_202 : decode cX6_tells 202 = .ok (.bipush 28, 2) := by decide +kernel
theorem dX6_tells_204 : decode cX6_tells 204 = .ok (.iload_n 3, 1) := by decide +kernel
theorem dX6_tells_205 : decode cX6_tells 205 = .ok (.invokevirtual 223, 3) := by decide +kernel
theorem dX6_tells_208 : decode cX6_tells 208 = .ok (.iconst (-1), 1) := by decide +kernel
theorem dX6_tells_209 : decode cX6_tells 209 = .ok (.if_icmp .ne 12, 3) := by decide +kernel
theorem dX6_tells_212 : decode cX6_tells 212 = .ok (.iload 5, 2) := by decide +kernel
theorem dX6_tells_214 : decode cX6_tells 214 = .ok (.iconst 1, 1) := by decide +kernel
theorem dX6_tells_215 : decode cX6_tells 215 = .ok (.iload 6, 2) := by decide +kernel
theorem dX6_tells_217 : decode cX6_tells 217 = .ok (.ishl, 1) := by decide +kernel
theorem dX6_tells_218 : decode cX6_tells 218 = .ok (.ior, 1) := by decide +kernel
theorem dX6_tells_219 : decode cX6_tells 219 = .ok (.istore 5, 2) := by decide +kernel
theorem dX6_tells_221 : decode cX6_tells 221 = .ok (.iinc 6 1, 3) := by decide +kernel
theorem dX6_tells_224 : decode cX6_tells 224 = .ok (.goto (-71), 3) := by decide +kernel
theorem dX6_tells_227 : decode cX6_tells 227 = .ok (.iload 5, 2) := by decide +kernel
theorem dX6_tells_229 : decode cX6_tells 229 = .ok (.ireturn, 1) := by decide +kernel
theorem dX6_film_0 : decode cX6_film 0 = .ok (.iload_n 1, 1) := by decide +kernel
theorem dX6_film_1 : decode cX6_film 1 = .ok (.invokestatic 227, 3) := by decide +kernel
theorem dX6_film_4 : decode cX6_film 4 = .ok (.ifCond .eq 31, 3) := by decide +kernel
theorem dX6_film_7 : decode cX6_film 7 = .ok (.iload_n 2, 1) := by decide +kernel
theorem dX6_film_8 : decode cX6_film 8 = .ok (.invokestatic 131, 3) := by decide +kernel
theorem dX6_film_11 : decode cX6_film 11 = .ok (.ifCond .eq 24, 3) := by decide +kernel
theorem dX6_film_14 : decode cX6_film 14 = .ok (.iload_n 3, 1) := by decide +kernel
theorem dX6_film_15 : decode cX6_film 15 = .ok (.iconst 0, 1) := by decide +kernel
theorem dX6_film_16 : decode cX6_film 16 = .ok (.invokestatic 135, 3) := by decide +kernel
theorem dX6_film_19 : decode cX6_film 19 = .ok (.ifCond .eq 16, 3) := by decide +kernel
theorem dX6_film_22 : decode cX6_film 22 = .ok (.iload 4, 2) := by decide +kernel
theorem dX6_film_24 : decode cX6_film 24 = .ok (.i2l, 1) := by decide +kernel
theorem dX6_film_25 : decode cX6_film 25 = .ok (.lconst 0, 1) := by decide +kernel
theorem dX6_film_26 : decode cX6_film 26 = .ok (.ldc2_w 233, 3) := by decide +kernel
theorem dX6_film_29 : decode cX6_film 29 = .ok (.invokestatic 86, 3) := by decide +kernel
theorem dX6_film_32 : decode cX6_film 32 = .ok (.ifCond .ne 6, 3) := by decide +kernel
theorem dX6_film_35 : decode cX6_film 35 = .ok (.bipush (-2), 2) := by decide +kernel
theorem dX6_film_37 : decode cX6_film 37 = .ok (.ireturn, 1) := by decide +kernel
theorem dX6_film_38 : decode cX6_film 38 = .ok (.aload_n 0, 1) := by decide +kernel
theorem dX6_film_39 : decode cX6_film 39 = .ok (.getfield 72, 3) := by decide +kernel
theorem dX6_film_42 : decode cX6_film 42 = .ok (.iload_n 1, 1) := by decide +kernel
theorem dX6_film_43 : decode cX6_film 43 = .ok (.iconst 0, 1) := by decide +kernel
theorem dX6_film_44 : decode cX6_film 44 = .ok (.iastore, 1) := by decide +kernel
theorem dX6_film_45 : decode cX6_film 45 = .ok (.aload_n 0, 1) := by decide +kernel
theorem dX6_film_46 : decode cX6_film 46 = .ok (.getfield 75, 3) := by decide +kernel
theorem dX6_film_49 : decode cX6_film 49 = .ok (.iload_n 1, 1) := by decide +kernel
theorem dX6_film_50 : decode cX6_film 50 = .ok (.iload 4, 2) := by decide +kernel
theorem dX6_film_52 : decode cX6_film 52 = .ok (.iastore, 1) := by decide +kernel
theorem dX6_film_53 : decode cX6_film 53 = .ok (.iconst 0, 1) := by decide +kernel
theorem dX6_film_54 : decode cX6_film 54 = .ok (.istore 5, 2) := by decide +kernel
theorem dX6_film_56 : decode cX6_film 56 = .ok (.iload 5, 2) := by decide +kernel
theorem dX6_film_58 : decode cX6_film 58 = .ok (.iload 4, 2) := by decide +kernel
theorem dX6_film_60 : decode cX6_film 60 = .ok (.if_icmp .ge 30, 3) := by decide +kernel
theorem dX6_film_63 : decode cX6_film 63 = .ok (.aload_n 0, 1) := by decide +kernel
theorem dX6_film_64 : decode cX6_film 64 = .ok (.getfield 78, 3) := by decide +kernel
theorem dX6_film_67 : decode cX6_film 67 = .ok (.iload_n 1, 1) := by decide +kernel
theorem dX6_film_68 : decode cX6_film 68 = .ok (.aaload, 1) := by decide +kernel
theorem dX6_film_69 : decode cX6_film 69 = .ok (.iload 5, 2) := by decide +kernel
theorem dX6_film_71 : decode cX6_film 71 = .ok (.aload_n 0, 1) := by decide +kernel
theorem dX6_film_72 : decode cX6_film 72 = .ok (.iload_n 2, 1) := by decide +kernel
theorem dX6_film_73 : decode cX6_film 73 = .ok (.iconst 4, 1) := by decide +kernel
theorem dX6_film_74 : decode cX6_film 74 = .ok (.iload_n 3, 1) := by decide +kernel
theorem dX6_film_75 : decode cX6_film 75 = .ok (.imul, 1) := by decide +kernel
theorem dX6_film_76 : decode cX6_film 76 = .ok (.iload 5, 2) := by decide +kernel
theorem dX6_film_78 : decode cX6_film 78 = .ok (.iadd, 1) := by decide +kernel
theorem dX6_film_79 : decode cX6_film 79 = .ok (.invokevirtual 161, 3) := by decide +kernel
theorem dX6_film_82 : decode cX6_film 82 = .ok (.l2i, 1) := by decide +kernel
theorem dX6_film_83 : decode cX6_film 83 = .ok (.iastore, 1) := by decide +kernel
theorem dX6_film_84 : decode cX6_film 84 = .ok (.iinc 5 1, 3) := by decide +kernel
theorem dX6_film_87 : decode cX6_film 87 = .ok (.goto (-31), 3) := by decide +kernel
theorem dX6_film_90 : decode cX6_film 90 = .ok (.iload 4, 2) := by decide +kernel
theorem dX6_film_92 : decode cX6_film 92 = .ok (.ireturn, 1) := by decide +kernel
theorem dX6_all_0 : decode cX6_all 0 = .ok (.iconst 0, 1) := by decide +kernel
theorem dX6_all_1 : decode cX6_all 1 = .ok (.istore_n 2, 1) := by decide +kernel
theorem dX6_all_2 : decode cX6_all 2 = .ok (.iload_n 2, 1) := by decide +kernel
theorem dX6_all_3 : decode cX6_all 3 = .ok (.aload_n 0, 1) := by decide +kernel
theorem dX6_all_4 : decode cX6_all 4 = .ok (.arraylength, 1) := by decide +kernel
theorem dX6_all_5 : decode cX6_all 5 = .ok (.if_icmp .ge 24, 3) := by decide +kernel
theorem dX6_all_8 : decode cX6_all 8 = .ok (.aload_n 0, 1) := by decide +kernel
theorem dX6_all_9 : decode cX6_all 9 = .ok (.iload_n 2, 1) := by decide +kernel
theorem dX6_all_10 : decode cX6_all 10 = .ok (.aaload, 1) := by decide +kernel
theorem dX6_all_11 : decode cX6_all 11 = .ok (.iconst 0, 1) := by decide +kernel
theorem dX6_all_12 : decode cX6_all 12 = .ok (.aload_n 1, 1) := by decide +kernel
theorem dX6_all_13 : decode cX6_all 13 = .ok (.iload_n 2, 1) := by decide +kernel
theorem dX6_all_14 : decode cX6_all 14 = .ok (.aaload, 1) := by decide +kernel
theorem dX6_all_15 : decode cX6_all 15 = .ok (.iconst 0, 1) := by decide +kernel
theorem dX6_all_16 : decode cX6_all 16 = .ok (.aload_n 0, 1) := by decide +kernel
theorem dX6_all_17 : decode cX6_all 17 = .ok (.iload_n 2, 1) := by decide +kernel
theorem dX6_all_18 : decode cX6_all 18 = .ok (.aaload, 1) := by decide +kernel
theorem dX6_all_19 : decode cX6_all 19 = .ok (.arraylength, 1) := by decide +kernel
theorem dX6_all_20 : decode cX6_all 20 = .ok (.invokestatic 98, 3) := by decide +kernel
theorem dX6_all_23 : decode cX6_all 23 = .ok (.iinc 2 1, 3) := by decide +kernel
theorem dX6_all_26 : decode cX6_all 26 = .ok (.goto (-24), 3) := by decide +kernel
theorem dX6_all_29 : decode cX6_all 29 = .ok (.return_, 1) := by decide +kernel
theorem dX6_image_0 : decode cX6_image 0 = .ok (.aload_n 0, 1) := by decide +kernel
theorem dX6_image_1 : decode cX6_image 1 = .ok (.iconst 1, 1) := by decide +kernel
theorem dX6_image_2 : decode cX6_image 2 = .ok (.putfield 235, 3) := by decide +kernel
theorem dX6_image_5 : decode cX6_image 5 = .ok (.aload_n 0, 1) := by decide +kernel
theorem dX6_image_6 : decode cX6_image 6 = .ok (.aload_n 0, 1) := by decide +kernel
theorem dX6_image_7 : decode cX6_image 7 = .ok (.getfield 92, 3) := by decide +kernel
theorem dX6_image_10 : decode cX6_image 10 = .ok (.putfield 239, 3) := by decide +kernel
theorem dX6_image_13 : decode cX6_image 13 = .ok (.aload_n 0, 1) := by decide +kernel
theorem dX6_image_14 : decode cX6_image 14 = .ok (.getfield 9, 3) := by decide +kernel
theorem dX6_image_17 : decode cX6_image 17 = .ok (.iconst 0, 1) := by decide +kernel
theorem dX6_image_18 : decode cX6_image 18 = .ok (.aload_n 0, 1) := by decide +kernel
theorem dX6_image_19 : decode cX6_image 19 = .ok (.getfield 45, 3) := by decide +kernel
theorem dX6_image_22 : decode cX6_image 22 = .ok (.iconst 0, 1) := by decide +kernel
theorem dX6_image_23 : decode cX6_image 23 = .ok (.iconst 4, 1) := by decide +kernel
theorem dX6_image_24 : decode cX6_image 24 = .ok (.invokestatic 98, 3) := by decide +kernel
theorem dX6_image_27 : decode cX6_image 27 = .ok (.aload_n 0, 1) := by decide +kernel
theorem dX6_image_28 : decode cX6_image 28 = .ok (.getfield 24, 3) := by decide +kernel
theorem dX6_image_31 : decode cX6_image 31 = .ok (.iconst 0, 1) := by decide +kernel
theorem dX6_image_32 : decode cX6_image 32 = .ok (.aload_n 0, 1) := by decide +kernel
theorem dX6_image_33 : decode cX6_image 33 = .ok (.getfield 48, 3) := by decide +kernel
theorem dX6_image_36 : decode cX6_image 36 = .ok (.iconst 0, 1) := by decide +kernel
theorem dX6_image_37 : decode cX6_image 37 = .ok (.bipush 12, 2) := by decide +kernel
theorem dX6_image_39 : decode cX6_image 39 = .ok (.invokestatic 98, 3) := by decide +kernel
theorem dX6_image_42 : decode cX6_image 42 = .ok (.aload_n 0, 1) := by decide +kernel
theorem dX6_image_43 : decode cX6_image 43 = .ok (.getfield 36, 3) := by decide +kernel
theorem dX6_image_46 : decode cX6_image 46 = .ok (.iconst 0, 1) := by decide +kernel
theorem dX6_image_47 : decode cX6_image 47 = .ok (.aload_n 0, 1) := by decide +kernel
theorem dX6_image_48 : decode cX6_image 48 = .ok (.getfield 51, 3) := by decide +kernel
theorem dX6_image_51 : decode cX6_image 51 = .ok (.iconst 0, 1) := by decide +kernel
theorem dX6_image_52 : decode cX6_image 52 = .ok (.bipush 6, 2) := by decide +kernel
theorem dX6_image_54 : decode cX6_image 54 = .ok (.invokestatic 98, 3) := by decide +kernel
theorem dX6_image_57 : decode cX6_image 57 = .ok (.aload_n 0, 1) := by decide +kernel
theorem dX6_image_58 : decode cX6_image 58 = .ok (.getfield 39, 3) := by decide +kernel
theorem dX6_image_61 : decode cX6_image 61 = .ok (.iconst 0, 1) := by decide +kernel
theorem dX6_image_62 : decode cX6_image 62 = .ok (.aload_n 0, 1) := by decide +kernel
theorem dX6_image_63 : decode cX6_image 63 = .ok (.getfield 54, 3) := by decide +kernel
theorem dX6_image_66 : decode cX6_image 66 = .ok (.iconst 0, 1) := by decide +kernel
theorem dX6_image_67 : decode cX6_image 67 = .ok (.bipush 6, 2) := by decide +kernel
theorem dX6_image_69 : decode cX6_image 69 = .ok (.invokestatic 98, 3) := by decide +kernel
theorem dX6_image_72 : decode cX6_image 72 = .ok (.iconst 0, 1) := by decide +kernel
theorem dX6_image_73 : decode cX6_image 73 = .ok (.istore_n 1, 1) := by decide +kernel
theorem dX6_image_74 : decode cX6_image 74 = .ok (.iload_n 1, 1) := by decide +kernel
theorem dX6_image_75 : decode cX6_image 75 = .ok (.iconst 4, 1) := by decide +kernel
theorem dX6_image_76 : decode cX6_image 76 = .ok (.if_icmp .ge 71, 3) := by decide +kernel
theorem dX6_image_79 : decode cX6_image 79 = .ok (.aload_n 0, 1) := by decide +kernel
theorem dX6_image_80 : decode cX6_image 80 = .ok (.getfield 15, 3) := by decide +kernel
theorem dX6_image_83 : decode cX6_image 83 = .ok (.iload_n 1, 1) := by decide +kernel
theorem dX6_image_84 : decode cX6_image 84 = .ok (.aaload, 1) := by decide +kernel
theorem dX6_image_85 : decode cX6_image 85 = .ok (.iconst 0, 1) := by decide +kernel
theorem dX6_image_86 : decode cX6_image 86 = .ok (.aload_n 0, 1) := by decide +kernel
theorem dX6_image_87 : decode cX6_image 87 = .ok (.getfield 57, 3) := by decide +kernel
theorem dX6_image_90 : decode cX6_image 90 = .ok (.iload_n 1, 1) := by decide +kernel
theorem dX6_image_91 : decode cX6_image 91 = .ok (.aaload, 1) := by decide +kernel
theorem dX6_image_92 : decode cX6_image 92 = .ok (.iconst 0, 1) := by decide +kernel
theorem dX6_image_93 : decode cX6_image 93 = .ok (.bipush 31, 2) := by decide +kernel
theorem dX6_image_95 : decode cX6_image 95 = .ok (.invokestatic 98, 3) := by decide +kernel
theorem dX6_image_98 : decode cX6_image 98 = .ok (.aload_n 0, 1) := by decide +kernel
theorem dX6_image_99 : decode cX6_image 99 = .ok (.getfield 18, 3) := by decide +kernel
theorem dX6_image_102 : decode cX6_image 102 = .ok (.iload_n 1, 1) := by decide +kernel
theorem dX6_image_103 : decode cX6_image 103 = .ok (.aaload, 1) := by decide +kernel
theorem dX6_image_104 : decode cX6_image 104 = .ok (.iconst 0, 1) := by decide +kernel
theorem dX6_image_105 : decode cX6_image 105 = .ok (.aload_n 0, 1) := by decide +kernel
theorem dX6_image_106 : decode cX6_image 106 = .ok (.getfield 57, 3) := by decide +kernel
theorem dX6_image_109 : decode cX6_image 109 = .ok (.iconst 4, 1) := by decide +kernel
theorem dX6_image_110 : decode cX6_image 110 = .ok (.iload_n 1, 1) := by decide +kernel
theorem dX6_image_111 : decode cX6_image 111 = .ok (.iadd, 1) := by decide +kernel
theorem dX6_image_112 : decode cX6_image 112 = .ok (.aaload, 1) := by decide +kernel
theorem dX6_image_113 : decode cX6_image 113 = .ok (.iconst 0, 1) := by decide +kernel
theorem dX6_image_114 : decode cX6_image 114 = .ok (.bipush 31, 2) := by decide +kernel
theorem dX6_image_116 : decode cX6_image 116 = .ok (.invokestatic 98, 3) := by decide +kernel
theorem dX6_image_119 : decode cX6_image 119 = .ok (.aload_n 0, 1) := by decide +kernel
theorem dX6_image_120 : decode cX6_image 120 = .ok (.getfield 21, 3) := by decide +kernel
theorem dX6_image_123 : decode cX6_image 123 = .ok (.iload_n 1, 1) := by decide +kernel
theorem dX6_image_124 : decode cX6_image 124 = .ok (.aaload, 1) := by decide +kernel
theorem dX6_image_125 : decode cX6_image 125 = .ok (.iconst 0, 1) := by decide +kernel
theorem dX6_image_126 : decode cX6_image 126 = .ok (.aload_n 0, 1) := by decide +kernel
theorem dX6_image_127 : decode cX6_image 127 = .ok (.getfield 57, 3) := by decide +kernel
theorem dX6_image_130 : decode cX6_image 130 = .ok (.bipush 8, 2) := by decide +kernel
theorem dX6_image_132 : decode cX6_image 132 = .ok (.iload_n 1, 1) := by decide +kernel
theorem dX6_image_133 : decode cX6_image 133 = .ok (.iadd, 1) := by decide +kernel
theorem dX6_image_134 : decode cX6_image 134 = .ok (.aaload, 1) := by decide +kernel
theorem dX6_image_135 : decode cX6_image 135 = .ok (.iconst 0, 1) := by decide +kernel
theorem dX6_image_136 : decode cX6_image 136 = .ok (.bipush 31, 2) := by decide +kernel
theorem dX6_image_138 : decode cX6_image 138 = .ok (.invokestatic 98, 3) := by decide +kernel
theorem dX6_image_141 : decode cX6_image 141 = .ok (.iinc 1 1, 3) := by decide +kernel
theorem dX6_image_144 : decode cX6_image 144 = .ok (.goto (-70), 3) := by decide +kernel
theorem dX6_image_147 : decode cX6_image 147 = .ok (.aload_n 0, 1) := by decide +kernel
theorem dX6_image_148 : decode cX6_image 148 = .ok (.getfield 27, 3) := by decide +kernel
theorem dX6_image_151 : decode cX6_image 151 = .ok (.aload_n 0, 1) := by decide +kernel
theorem dX6_image_152 : decode cX6_image 152 = .ok (.getfield 60, 3) := by decide +kernel
theorem dX6_image_155 : decode cX6_image 155 = .ok (.invokestatic 242, 3) := by decide +kernel
theorem dX6_image_158 : decode cX6_image 158 = .ok (.aload_n 0, 1) := by decide +kernel
theorem dX6_image_159 : decode cX6_image 159 = .ok (.getfield 30, 3) := by decide +kernel
theorem dX6_image_162 : decode cX6_image 162 = .ok (.aload_n 0, 1) := by decide +kernel
theorem dX6_image_163 : decode cX6_image 163 = .ok (.getfield 63, 3) := by decide +kernel
theorem dX6_image_166 : decode cX6_image 166 = .ok (.invokestatic 242, 3) := by decide +kernel
theorem dX6_image_169 : decode cX6_image 169 = .ok (.aload_n 0, 1) := by decide +kernel
theorem dX6_image_170 : decode cX6_image 170 = .ok (.getfield 33, 3) := by decide +kernel
theorem dX6_image_173 : decode cX6_image 173 = .ok (.aload_n 0, 1) := by decide +kernel
theorem dX6_image_174 : decode cX6_image 174 = .ok (.getfield 66, 3) := by decide +kernel
theorem dX6_image_177 : decode cX6_image 177 = .ok (.invokestatic 242, 3) := by decide +kernel
theorem dX6_image_180 : decode cX6_image 180 = .ok (.aload_n 0, 1) := by decide +kernel
theorem dX6_image_181 : decode cX6_image 181 = .ok (.getfield 42, 3) := by decide +kernel
theorem dX6_image_184 : decode cX6_image 184 = .ok (.aload_n 0, 1) := by decide +kernel
theorem dX6_image_185 : decode cX6_image 185 = .ok (.getfield 69, 3) := by decide +kernel
theorem dX6_image_188 : decode cX6_image 188 = .ok (.invokestatic 242, 3) := by decide +kernel
theorem dX6_image_191 : decode cX6_image 191 = .ok (.aload_n 0, 1) := by decide +kernel
theorem dX6_image_192 : decode cX6_image 192 = .ok (.getfield 92, 3) := by decide +kernel
theorem dX6_image_195 : decode cX6_image 195 = .ok (.ireturn, 1) := by decide +kernel
theorem dX6_back_0 : decode cX6_back 0 = .ok (.aload_n 0, 1) := by decide +kernel
theorem dX6_back_1 : decode cX6_back 1 = .ok (.getfield 235, 3) := by decide +kernel
theorem dX6_back_4 : decode cX6_back 4 = .ok (.ifCond .ne 6, 3) := by decide +kernel
theorem dX6_back_7 : decode cX6_back 7 = .ok (.bipush (-3), 2) := by decide +kernel
theorem dX6_back_9 : decode cX6_back 9 = .ok (.ireturn, 1) := by decide +kernel
theorem dX6_back_10 : decode cX6_back 10 = .ok (.aload_n 0, 1) := by decide +kernel
theorem dX6_back_11 : decode cX6_back 11 = .ok (.aload_n 0, 1) := by decide +kernel
theorem dX6_back_12 : decode cX6_back 12 = .ok (.getfield 239, 3) := by decide +kernel
theorem dX6_back_15 : decode cX6_back 15 = .ok (.putfield 92, 3) := by decide +kernel
theorem dX6_back_18 : decode cX6_back 18 = .ok (.aload_n 0, 1) := by decide +kernel
theorem dX6_back_19 : decode cX6_back 19 = .ok (.getfield 45, 3) := by decide +kernel
theorem dX6_back_22 : decode cX6_back 22 = .ok (.iconst 0, 1) := by decide +kernel
theorem dX6_back_23 : decode cX6_back 23 = .ok (.aload_n 0, 1) := by decide +kernel
theorem dX6_back_24 : decode cX6_back 24 = .ok (.getfield 9, 3) := by decide +kernel
theorem dX6_back_27 : decode cX6_back 27 = .ok (.iconst 0, 1) := by decide +kernel
theorem dX6_back_28 : decode cX6_back 28 = .ok (.iconst 4, 1) := by decide +kernel
theorem dX6_back_29 : decode cX6_back 29 = .ok (.invokestatic 98, 3) := by decide +kernel
theorem dX6_back_32 : decode cX6_back 32 = .ok (.aload_n 0, 1) := by decide +kernel
theorem dX6_back_33 : decode cX6_back 33 = .ok (.getfield 48, 3) := by decide +kernel
theorem dX6_back_36 : decode cX6_back 36 = .ok (.iconst 0, 1) := by decide +kernel
theorem dX6_back_37 : decode cX6_back 37 = .ok (.aload_n 0, 1) := by decide +kernel
theorem dX6_back_38 : decode cX6_back 38 = .ok (.getfield 24, 3) := by decide +kernel
theorem dX6_back_41 : decode cX6_back 41 = .ok (.iconst 0, 1) := by decide +kernel
theorem dX6_back_42 : decode cX6_back 42 = .ok (.bipush 12, 2) := by decide +kernel
theorem dX6_back_44 : decode cX6_back 44 = .ok (.invokestatic 98, 3) := by decide +kernel
theorem dX6_back_47 : decode cX6_back 47 = .ok (.aload_n 0, 1) := by decide +kernel
theorem dX6_back_48 : decode cX6_back 48 = .ok (.getfield 51, 3) := by decide +kernel
theorem dX6_back_51 : decode cX6_back 51 = .ok (.iconst 0, 1) := by decide +kernel
theorem dX6_back_52 : decode cX6_back 52 = .ok (.aload_n 0, 1) := by decide +kernel
theorem dX6_back_53 : decode cX6_back 53 = .ok (.getfield 36, 3) := by decide +kernel
theorem dX6_back_56 : decode cX6_back 56 = .ok (.iconst 0, 1) := by decide +kernel
theorem dX6_back_57 : decode cX6_back 57 = .ok (.bipush 6, 2) := by decide +kernel
theorem dX6_back_59 : decode cX6_back 59 = .ok (.invokestatic 98, 3) := by decide +kernel
theorem dX6_back_62 : decode cX6_back 62 = .ok (.aload_n 0, 1) := by decide +kernel
theorem dX6_back_63 : decode cX6_back 63 = .ok (.getfield 54, 3) := by decide +kernel
theorem dX6_back_66 : decode cX6_back 66 = .ok (.iconst 0, 1) := by decide +kernel
theorem dX6_back_67 : decode cX6_back 67 = .ok (.aload_n 0, 1) := by decide +kernel
theorem dX6_back_68 : decode cX6_back 68 = .ok (.getfield 39, 3) := by decide +kernel
theorem dX6_back_71 : decode cX6_back 71 = .ok (.iconst 0, 1) := by decide +kernel
theorem dX6_back_72 : decode cX6_back 72 = .ok (.bipush 6, 2) := by decide +kernel
theorem dX6_back_74 : decode cX6_back 74 = .ok (.invokestatic 98, 3) := by decide +kernel
theorem dX6_back_77 : decode cX6_back 77 = .ok (.iconst 0, 1) := by decide +kernel
theorem dX6_back_78 : decode cX6_back 78 = .ok (.istore_n 1, 1) := by decide +kernel
theorem dX6_back_79 : decode cX6_back 79 = .ok (.iload_n 1, 1) := by decide +kernel
theorem dX6_back_80 : decode cX6_back 80 = .ok (.iconst 4, 1) := by decide +kernel
theorem dX6_back_81 : decode cX6_back 81 = .ok (.if_icmp .ge 71, 3) := by decide +kernel
theorem dX6_back_84 : decode cX6_back 84 = .ok (.aload_n 0, 1) := by decide +kernel
theorem dX6_back_85 : decode cX6_back 85 = .ok (.getfield 57, 3) := by decide +kernel
theorem dX6_back_88 : decode cX6_back 88 = .ok (.iload_n 1, 1) := by decide +kernel
theorem dX6_back_89 : decode cX6_back 89 = .ok (.aaload, 1) := by decide +kernel
theorem dX6_back_90 : decode cX6_back 90 = .ok (.iconst 0, 1) := by decide +kernel
theorem dX6_back_91 : decode cX6_back 91 = .ok (.aload_n 0, 1) := by decide +kernel
theorem dX6_back_92 : decode cX6_back 92 = .ok (.getfield 15, 3) := by decide +kernel
theorem dX6_back_95 : decode cX6_back 95 = .ok (.iload_n 1, 1) := by decide +kernel
theorem dX6_back_96 : decode cX6_back 96 = .ok (.aaload, 1) := by decide +kernel
theorem dX6_back_97 : decode cX6_back 97 = .ok (.iconst 0, 1) := by decide +kernel
theorem dX6_back_98 : decode cX6_back 98 = .ok (.bipush 31, 2) := by decide +kernel
theorem dX6_back_100 : decode cX6_back 100 = .ok (.invokestatic 98, 3) := by decide +kernel
theorem dX6_back_103 : decode cX6_back 103 = .ok (.aload_n 0, 1) := by decide +kernel
theorem dX6_back_104 : decode cX6_back 104 = .ok (.getfield 57, 3) := by decide +kernel
theorem dX6_back_107 : decode cX6_back 107 = .ok (.iconst 4, 1) := by decide +kernel
theorem dX6_back_108 : decode cX6_back 108 = .ok (.iload_n 1, 1) := by decide +kernel
theorem dX6_back_109 : decode cX6_back 109 = .ok (.iadd, 1) := by decide +kernel
theorem dX6_back_110 : decode cX6_back 110 = .ok (.aaload, 1) := by decide +kernel
theorem dX6_back_111 : decode cX6_back 111 = .ok (.iconst 0, 1) := by decide +kernel
theorem dX6_back_112 : decode cX6_back 112 = .ok (.aload_n 0, 1) := by decide +kernel
theorem dX6_back_113 : decode cX6_back 113 = .ok (.getfield 18, 3) := by decide +kernel
theorem dX6_back_116 : decode cX6_back 116 = .ok (.iload_n 1, 1) := by decide +kernel
theorem dX6_back_117 : decode cX6_back 117 = .ok (.aaload, 1) := by decide +kernel
theorem dX6_back_118 : decode cX6_back 118 = .ok (.iconst 0, 1) := by decide +kernel
theorem dX6_back_119 : decode cX6_back 119 = .ok (.bipush 31, 2) := by decide +kernel
theorem dX6_back_121 : decode cX6_back 121 = .ok (.invokestatic 98, 3) := by decide +kernel
theorem dX6_back_124 : decode cX6_back 124 = .ok (.aload_n 0, 1) := by decide +kernel
theorem dX6_back_125 : decode cX6_back 125 = .ok (.getfield 57, 3) := by decide +kernel
theorem dX6_back_128 : decode cX6_back 128 = .ok (.bipush 8, 2) := by decide +kernel
theorem dX6_back_130 : decode cX6_back 130 = .ok (.iload_n 1, 1) := by decide +kernel
theorem dX6_back_131 : decode cX6_back 131 = .ok (.iadd, 1) := by decide +kernel
theorem dX6_back_132 : decode cX6_back 132 = .ok (.aaload, 1) := by decide +kernel
theorem dX6_back_133 : decode cX6_back 133 = .ok (.iconst 0, 1) := by decide +kernel
theorem dX6_back_134 : decode cX6_back 134 = .ok (.aload_n 0, 1) := by decide +kernel
theorem dX6_back_135 : decode cX6_back 135 = .ok (.getfield 21, 3) := by decide +kernel
theorem dX6_back_138 : decode cX6_back 138 = .ok (.iload_n 1, 1) := by decide +kernel
theorem dX6_back_139 : decode cX6_back 139 = .ok (.aaload, 1) := by decide +kernel
theorem dX6_back_140 : decode cX6_back 140 = .ok (.iconst 0, 1) := by decide +kernel
theorem dX6_back_141 : decode cX6_back 141 = .ok (.bipush 31, 2) := by decide +kernel
theorem dX6_back_143 : decode cX6_back 143 = .ok (.invokestatic 98, 3) := by decide +kernel
theorem dX6_back_146 : decode cX6_back 146 = .ok (.iinc 1 1, 3) := by decide +kernel
theorem dX6_back_149 : decode cX6_back 149 = .ok (.goto (-70), 3) := by decide +kernel
theorem dX6_back_152 : decode cX6_back 152 = .ok (.aload_n 0, 1) := by decide +kernel
theorem dX6_back_153 : decode cX6_back 153 = .ok (.getfield 60, 3) := by decide +kernel
theorem dX6_back_156 : decode cX6_back 156 = .ok (.aload_n 0, 1) := by decide +kernel
theorem dX6_back_157 : decode cX6_back 157 = .ok (.getfield 27, 3) := by decide +kernel
theorem dX6_back_160 : decode cX6_back 160 = .ok (.invokestatic 242, 3) := by decide +kernel
theorem dX6_back_163 : decode cX6_back 163 = .ok (.aload_n 0, 1) := by decide +kernel
theorem dX6_back_164 : decode cX6_back 164 = .ok (.getfield 63, 3) := by decide +kernel
theorem dX6_back_167 : decode cX6_back 167 = .ok (.aload_n 0, 1) := by decide +kernel
theorem dX6_back_168 : decode cX6_back 168 = .ok (.getfield 30, 3) := by decide +kernel
theorem dX6_back_171 : decode cX6_back 171 = .ok (.invokestatic 242, 3) := by decide +kernel
theorem dX6_back_174 : decode cX6_back 174 = .ok (.aload_n 0, 1) := by decide +kernel
theorem dX6_back_175 : decode cX6_back 175 = .ok (.getfield 66, 3) := by decide +kernel
theorem dX6_back_178 : decode cX6_back 178 = .ok (.aload_n 0, 1) := by decide +kernel
theorem dX6_back_179 : decode cX6_back 179 = .ok (.getfield 33, 3) := by decide +kernel
theorem dX6_back_182 : decode cX6_back 182 = .ok (.invokestatic 242, 3) := by decide +kernel
theorem dX6_back_185 : decode cX6_back 185 = .ok (.aload_n 0, 1) := by decide +kernel
theorem dX6_back_186 : decode cX6_back 186 = .ok (.getfield 69, 3) := by decide +kernel
theorem dX6_back_189 : decode cX6_back 189 = .ok (.aload_n 0, 1) := by decide +kernel
theorem dX6_back_190 : decode cX6_back 190 = .ok (.getfield 42, 3) := by decide +kernel
theorem dX6_back_193 : decode cX6_back 193 = .ok (.invokestatic 242, 3) := by decide +kernel
theorem dX6_back_196 : decode cX6_back 196 = .ok (.aload_n 0, 1) := by decide +kernel
theorem dX6_back_197 : decode cX6_back 197 = .ok (.getfield 92, 3) := by decide +kernel
theorem dX6_back_200 : decode cX6_back 200 = .ok (.ireturn, 1) := by decide +kernel
theorem dX6_count_0 : decode cX6_count 0 = .ok (.iconst 0, 1) := by decide +kernel
theorem dX6_count_1 : decode cX6_count 1 = .ok (.istore_n 2, 1) := by decide +kernel
theorem dX6_count_2 : decode cX6_count 2 = .ok (.iload_n 1, 1) := by decide +kernel
theorem dX6_count_3 : decode cX6_count 3 = .ok (.tableswitch 131 0 4 #[33, 57, 62, 72, 88], 33) := by decide +kernel
theorem dX6_count_36 : decode cX6_count 36 = .ok (.iconst 0, 1) := by decide +kernel
theorem dX6_count_37 : decode cX6_count 37 = .ok (.istore_n 3, 1) := by decide +kernel
theorem dX6_count_38 : decode cX6_count 38 = .ok (.iload_n 3, 1) := by decide +kernel
theorem dX6_count_39 : decode cX6_count 39 = .ok (.iconst 4, 1) := by decide +kernel
theorem dX6_count_40 : decode cX6_count 40 = .ok (.if_icmp .ge 18, 3) := by decide +kernel
theorem dX6_count_43 : decode cX6_count 43 = .ok (.iload_n 2, 1) := by decide +kernel
theorem dX6_count_44 : decode cX6_count 44 = .ok (.aload_n 0, 1) := by decide +kernel
theorem dX6_count_45 : decode cX6_count 45 = .ok (.getfield 9, 3) := by decide +kernel
theorem dX6_count_48 : decode cX6_count 48 = .ok (.iload_n 3, 1) := by decide +kernel
theorem dX6_count_49 : decode cX6_count 49 = .ok (.iaload, 1) := by decide +kernel
theorem dX6_count_50 : decode cX6_count 50 = .ok (.iadd, 1) := by decide +kernel
theorem dX6_count_51 : decode cX6_count 51 = .ok (.istore_n 2, 1) := by decide +kernel
theorem dX6_count_52 : decode cX6_count 52 = .ok (.iinc 3 1, 3) := by decide +kernel
theorem dX6_count_55 : decode cX6_count 55 = .ok (.goto (-17), 3) := by decide +kernel
theorem dX6_count_58 : decode cX6_count 58 = .ok (.iload_n 2, 1) := by decide +kernel
theorem dX6_count_59 : decode cX6_count 59 = .ok (.ireturn, 1) := by decide +kernel
theorem dX6_count_60 : decode cX6_count 60 = .ok (.aload_n 0, 1) := by decide +kernel
theorem dX6_count_61 : decode cX6_count 61 = .ok (.getfield 92, 3) := by decide +kernel
theorem dX6_count_64 : decode cX6_count 64 = .ok (.ireturn, 1) := by decide +kernel
theorem dX6_count_65 : decode cX6_count 65 = .ok (.aload_n 0, 1) := by decide +kernel
theorem dX6_count_66 : decode cX6_count 66 = .ok (.invokevirtual 192, 3) := by decide +kernel
theorem dX6_count_69 : decode cX6_count 69 = .ok (.aload_n 0, 1) := by decide +kernel
theorem dX6_count_70 : decode cX6_count 70 = .ok (.iconst 0, 1) := by decide +kernel
theorem dX6_count_71 : decode cX6_count 71 = .ok (.invokevirtual 210, 3) := by decide +kernel
theorem dX6_count_74 : decode cX6_count 74 = .ok (.ireturn, 1) := by decide +kernel
theorem dX6_count_75 : decode cX6_count 75 = .ok (.aload_n 0, 1) := by decide +kernel
theorem dX6_count_76 : decode cX6_count 76 = .ok (.invokevirtual 192, 3) := by decide +kernel
theorem dX6_count_79 : decode cX6_count 79 = .ok (.aload_n 0, 1) := by decide +kernel
theorem dX6_count_80 : decode cX6_count 80 = .ok (.aload_n 0, 1) := by decide +kernel
theorem dX6_count_81 : decode cX6_count 81 = .ok (.getfield 30, 3) := by decide +kernel
theorem dX6_count_84 : decode cX6_count 84 = .ok (.bipush 26, 2) := by decide +kernel
theorem dX6_count_86 : decode cX6_count 86 = .ok (.aaload, 1) := by decide +kernel
theorem dX6_count_87 : decode cX6_count 87 = .ok (.invokevirtual 185, 3) := by decide +kernel
theorem dX6_count_90 : decode cX6_count 90 = .ok (.ireturn, 1) := by decide +kernel
theorem dX6_count_91 : decode cX6_count 91 = .ok (.iconst 0, 1) := by decide +kernel
theorem dX6_count_92 : decode cX6_count 92 = .ok (.istore_n 3, 1) := by decide +kernel
theorem dX6_count_93 : decode cX6_count 93 = .ok (.iload_n 3, 1) := by decide +kernel
theorem dX6_count_94 : decode cX6_count 94 = .ok (.iconst 4, 1) := by decide +kernel
theorem dX6_count_95 : decode cX6_count 95 = .ok (.if_icmp .ge 37, 3) := by decide +kernel
theorem dX6_count_98 : decode cX6_count 98 = .ok (.iconst 0, 1) := by decide +kernel
theorem dX6_count_99 : decode cX6_count 99 = .ok (.istore 4, 2) := by decide +kernel
theorem dX6_count_101 : decode cX6_count 101 = .ok (.iload 4, 2) := by decide +kernel
theorem dX6_count_103 : decode cX6_count 103 = .ok (.iconst 4, 1) := by decide +kernel
theorem dX6_count_104 : decode cX6_count 104 = .ok (.if_icmp .ge 22, 3) := by decide +kernel
theorem dX6_count_107 : decode cX6_count 107 = .ok (.iload_n 2, 1) := by decide +kernel
theorem dX6_count_108 : decode cX6_count 108 = .ok (.aload_n 0, 1) := by decide +kernel
theorem dX6_count_109 : decode cX6_count 109 = .ok (.iload_n 3, 1) := by decide +kernel
theorem dX6_count_110 : decode cX6_count 110 = .ok (.iload 4, 2) := by decide +kernel
theorem dX6_count_112 : decode cX6_count 112 = .ok (.invokevirtual 176, 3) := by decide +kernel
theorem dX6_count_115 : decode cX6_count 115 = .ok (.invokestatic 104, 3) := by decide +kernel
theorem dX6_count_118 : decode cX6_count 118 = .ok (.iadd, 1) := by decide +kernel
theorem dX6_count_119 : decode cX6_count 119 = .ok (.istore_n 2, 1) := by decide +kernel
theorem dX6_count_120 : decode cX6_count 120 = .ok (.iinc 4 1, 3) := by decide +kernel
theorem dX6_count_123 : decode cX6_count 123 = .ok (.goto (-22), 3) := by decide +kernel
theorem dX6_count_126 : decode cX6_count 126 = .ok (.iinc 3 1, 3) := by decide +kernel
theorem dX6_count_129 : decode cX6_count 129 = .ok (.goto (-36), 3) := by decide +kernel
theorem dX6_count_132 : decode cX6_count 132 = .ok (.iload_n 2, 1) := by decide +kernel
theorem dX6_count_133 : decode cX6_count 133 = .ok (.ireturn, 1) := by decide +kernel
theorem dX6_count_134 : decode cX6_count 134 = .ok (.bipush (-2), 2) := by decide +kernel
theorem dX6_count_136 : decode cX6_count 136 = .ok (.ireturn, 1) := by decide +kernel
theorem dX6_isSheet_0 : decode cX6_isSheet 0 = .ok (.iload_n 0, 1) := by decide +kernel
theorem dX6_isSheet_1 : decode cX6_isSheet 1 = .ok (.i2l, 1) := by decide +kernel
theorem dX6_isSheet_2 : decode cX6_isSheet 2 = .ok (.lconst 0, 1) := by decide +kernel
theorem dX6_isSheet_3 : decode cX6_isSheet 3 = .ok (.ldc2_w 84, 3) := by decide +kernel
theorem dX6_isSheet_6 : decode cX6_isSheet 6 = .ok (.invokestatic 86, 3) := by decide +kernel
theorem dX6_isSheet_9 : decode cX6_isSheet 9 = .ok (.ireturn, 1) := by decide +kernel
theorem dX6_sheet_0 : decode cX6_sheet 0 = .ok (.iload_n 1, 1) := by decide +kernel
theorem dX6_sheet_1 : decode cX6_sheet 1 = .ok (.invokestatic 227, 3) := by decide +kernel
theorem dX6_sheet_4 : decode cX6_sheet 4 = .ok (.ifCond .eq 25, 3) := by decide +kernel
theorem dX6_sheet_7 : decode cX6_sheet 7 = .ok (.iload_n 2, 1) := by decide +kernel
theorem dX6_sheet_8 : decode cX6_sheet 8 = .ok (.i2l, 1) := by decide +kernel
theorem dX6_sheet_9 : decode cX6_sheet 9 = .ok (.ldc2_w 246, 3) := by decide +kernel
theorem dX6_sheet_12 : decode cX6_sheet 12 = .ok (.lconst 1, 1) := by decide +kernel
theorem dX6_sheet_13 : decode cX6_sheet 13 = .ok (.invokestatic 86, 3) := by decide +kernel
theorem dX6_sheet_16 : decode cX6_sheet 16 = .ok (.ifCond .eq 13, 3) := by decide +kernel
theorem dX6_sheet_19 : decode cX6_sheet 19 = .ok (.iload_n 2, 1) := by decide +kernel
theorem dX6_sheet_20 : decode cX6_sheet 20 = .ok (.ifCond .lt 12, 3) := by decide +kernel
theorem dX6_sheet_23 : decode cX6_sheet 23 = .ok (.iload_n 3, 1) := by decide +kernel
theorem dX6_sheet_24 : decode cX6_sheet 24 = .ok (.bipush 40, 2) := by decide +kernel
theorem dX6_sheet_26 : decode cX6_sheet 26 = .ok (.if_icmp .le 6, 3) := by decide +kernel
theorem dX6_sheet_29 : decode cX6_sheet 29 = .ok (.bipush (-2), 2) := by decide +kernel
theorem dX6_sheet_31 : decode cX6_sheet 31 = .ok (.ireturn, 1) := by decide +kernel
theorem dX6_sheet_32 : decode cX6_sheet 32 = .ok (.iload_n 2, 1) := by decide +kernel
theorem dX6_sheet_33 : decode cX6_sheet 33 = .ok (.ifCond .lt 10, 3) := by decide +kernel
theorem dX6_sheet_36 : decode cX6_sheet 36 = .ok (.iload_n 3, 1) := by decide +kernel
theorem dX6_sheet_37 : decode cX6_sheet 37 = .ok (.ifCond .ge 6, 3) := by decide +kernel
theorem dX6_sheet_40 : decode cX6_sheet 40 = .ok (.bipush (-14), 2) := by decide +kernel
theorem dX6_sheet_42 : decode cX6_sheet 42 = .ok (.ireturn, 1) := by decide +kernel
theorem dX6_sheet_43 : decode cX6_sheet 43 = .ok (.aload_n 0, 1) := by decide +kernel
theorem dX6_sheet_44 : decode cX6_sheet 44 = .ok (.getfield 72, 3) := by decide +kernel
theorem dX6_sheet_47 : decode cX6_sheet 47 = .ok (.iload_n 1, 1) := by decide +kernel
theorem dX6_sheet_48 : decode cX6_sheet 48 = .ok (.iload_n 2, 1) := by decide +kernel
theorem dX6_sheet_49 : decode cX6_sheet 49 = .ok (.iastore, 1) := by decide +kernel
theorem dX6_sheet_50 : decode cX6_sheet 50 = .ok (.aload_n 0, 1) := by decide +kernel
theorem dX6_sheet_51 : decode cX6_sheet 51 = .ok (.getfield 75, 3) := by decide +kernel
theorem dX6_sheet_54 : decode cX6_sheet 54 = .ok (.iload_n 1, 1) := by decide +kernel
theorem dX6_sheet_55 : decode cX6_sheet 55 = .ok (.iload_n 2, 1) := by decide +kernel
theorem dX6_sheet_56 : decode cX6_sheet 56 = .ok (.ifCond .ge 7, 3) := by decide +kernel
theorem dX6_sheet_59 : decode cX6_sheet 59 = .ok (.iconst 0, 1) := by decide +kernel
theorem dX6_sheet_60 : decode cX6_sheet 60 = .ok (.goto 4, 3) := by decide +kernel
theorem dX6_sheet_63 : decode cX6_sheet 63 = .ok (.iload_n 3, 1) := by decide +kernel
theorem dX6_sheet_64 : decode cX6_sheet 64 = .ok (.iastore, 1) := by decide +kernel
theorem dX6_sheet_65 : decode cX6_sheet 65 = .ok (.iconst 0, 1) := by decide +kernel
theorem dX6_sheet_66 : decode cX6_sheet 66 = .ok (.istore 4, 2) := by decide +kernel
theorem dX6_sheet_68 : decode cX6_sheet 68 = .ok (.iload 4, 2) := by decide +kernel
theorem dX6_sheet_70 : decode cX6_sheet 70 = .ok (.bipush 40, 2) := by decide +kernel
theorem dX6_sheet_72 : decode cX6_sheet 72 = .ok (.if_icmp .ge 19, 3) := by decide +kernel
theorem dX6_sheet_75 : decode cX6_sheet 75 = .ok (.aload_n 0, 1) := by decide +kernel
theorem dX6_sheet_76 : decode cX6_sheet 76 = .ok (.getfield 78, 3) := by decide +kernel
theorem dX6_sheet_79 : decode cX6_sheet 79 = .ok (.iload_n 1, 1) := by decide +kernel
theorem dX6_sheet_80 : decode cX6_sheet 80 = .ok (.aaload, 1) := by decide +kernel
theorem dX6_sheet_81 : decode cX6_sheet 81 = .ok (.iload 4, 2) := by decide +kernel
theorem dX6_sheet_83 : decode cX6_sheet 83 = .ok (.iconst 0, 1) := by decide +kernel
theorem dX6_sheet_84 : decode cX6_sheet 84 = .ok (.iastore, 1) := by decide +kernel
theorem dX6_sheet_85 : decode cX6_sheet 85 = .ok (.iinc 4 1, 3) := by decide +kernel
theorem dX6_sheet_88 : decode cX6_sheet 88 = .ok (.goto (-20), 3) := by decide +kernel
theorem dX6_sheet_91 : decode cX6_sheet 91 = .ok (.iconst 1, 1) := by decide +kernel
theorem dX6_sheet_92 : decode cX6_sheet 92 = .ok (.ireturn, 1) := by decide +kernel
theorem dX6_refusal_0 : decode cX6_refusal 0 = .ok (.iload_n 1, 1) := by decide +kernel
theorem dX6_refusal_1 : decode cX6_refusal 1 = .ok (.invokestatic 227, 3) := by decide +kernel
theorem dX6_refusal_4 : decode cX6_refusal 4 = .ok (.ifCond .ne 6, 3) := by decide +kernel
theorem dX6_refusal_7 : decode cX6_refusal 7 = .ok (.bipush (-2), 2) := by decide +kernel
theorem dX6_refusal_9 : decode cX6_refusal 9 = .ok (.ireturn, 1) := by decide +kernel
theorem dX6_refusal_10 : decode cX6_refusal 10 = .ok (.aload_n 0, 1) := by decide +kernel
theorem dX6_refusal_11 : decode cX6_refusal 11 = .ok (.getfield 72, 3) := by decide +kernel
theorem dX6_refusal_14 : decode cX6_refusal 14 = .ok (.iload_n 1, 1) := by decide +kernel
theorem dX6_refusal_15 : decode cX6_refusal 15 = .ok (.iaload, 1) := by decide +kernel
theorem dX6_refusal_16 : decode cX6_refusal 16 = .ok (.ifCond .ge 6, 3) := by decide +kernel
theorem dX6_refusal_19 : decode cX6_refusal 19 = .ok (.bipush (-11), 2) := by decide +kernel
theorem dX6_refusal_21 : decode cX6_refusal 21 = .ok (.ireturn, 1) := by decide +kernel
theorem dX6_refusal_22 : decode cX6_refusal 22 = .ok (.iload_n 2, 1) := by decide +kernel
theorem dX6_refusal_23 : decode cX6_refusal 23 = .ok (.i2l, 1) := by decide +kernel
theorem dX6_refusal_24 : decode cX6_refusal 24 = .ok (.lconst 0, 1) := by decide +kernel
theorem dX6_refusal_25 : decode cX6_refusal 25 = .ok (.aload_n 0, 1) := by decide +kernel
theorem dX6_refusal_26 : decode cX6_refusal 26 = .ok (.getfield 75, 3) := by decide +kernel
theorem dX6_refusal_29 : decode cX6_refusal 29 = .ok (.iload_n 1, 1) := by decide +kernel
theorem dX6_refusal_30 : decode cX6_refusal 30 = .ok (.iaload, 1) := by decide +kernel
theorem dX6_refusal_31 : decode cX6_refusal 31 = .ok (.iconst 1, 1) := by decide +kernel
theorem dX6_refusal_32 : decode cX6_refusal 32 = .ok (.isub, 1) := by decide +kernel
theorem dX6_refusal_33 : decode cX6_refusal 33 = .ok (.i2l, 1) := by decide +kernel
theorem dX6_refusal_34 : decode cX6_refusal 34 = .ok (.invokestatic 86, 3) := by decide +kernel
theorem dX6_refusal_37 : decode cX6_refusal 37 = .ok (.ifCond .eq 7, 3) := by decide +kernel
theorem dX6_refusal_40 : decode cX6_refusal 40 = .ok (.iconst 0, 1) := by decide +kernel
theorem dX6_refusal_41 : decode cX6_refusal 41 = .ok (.goto 5, 3) := by decide +kernel
theorem dX6_refusal_44 : decode cX6_refusal 44 = .ok (.bipush (-12), 2) := by decide +kernel
theorem dX6_refusal_46 : decode cX6_refusal 46 = .ok (.ireturn, 1) := by decide +kernel
theorem dX6_put_0 : decode cX6_put 0 = .ok (.aload_n 0, 1) := by decide +kernel
theorem dX6_put_1 : decode cX6_put 1 = .ok (.iload_n 1, 1) := by decide +kernel
theorem dX6_put_2 : decode cX6_put 2 = .ok (.iload_n 2, 1) := by decide +kernel
theorem dX6_put_3 : decode cX6_put 3 = .ok (.invokevirtual 248, 3) := by decide +kernel
theorem dX6_put_6 : decode cX6_put 6 = .ok (.istore 4, 2) := by decide +kernel
theorem dX6_put_8 : decode cX6_put 8 = .ok (.iload 4, 2) := by decide +kernel
theorem dX6_put_10 : decode cX6_put 10 = .ok (.ifCond .eq 6, 3) := by decide +kernel
theorem dX6_put_13 : decode cX6_put 13 = .ok (.iload 4, 2) := by decide +kernel
theorem dX6_put_15 : decode cX6_put 15 = .ok (.ireturn, 1) := by decide +kernel
theorem dX6_put_16 : decode cX6_put 16 = .ok (.aload_n 0, 1) := by decide +kernel
theorem dX6_put_17 : decode cX6_put 17 = .ok (.getfield 78, 3) := by decide +kernel
theorem dX6_put_20 : decode cX6_put 20 = .ok (.iload_n 1, 1) := by decide +kernel
theorem dX6_put_21 : decode cX6_put 21 = .ok (.aaload, 1) := by decide +kernel
theorem dX6_put_22 : decode cX6_put 22 = .ok (.iload_n 2, 1) := by decide +kernel
theorem dX6_put_23 : decode cX6_put 23 = .ok (.aload_n 0, 1) := by decide +kernel
theorem dX6_put_24 : decode cX6_put 24 = .ok (.getfield 72, 3) := by decide +kernel
theorem dX6_put_27 : decode cX6_put 27 = .ok (.iload_n 1, 1) := by decide +kernel
theorem dX6_put_28 : decode cX6_put 28 = .ok (.iaload, 1) := by decide +kernel
theorem dX6_put_29 : decode cX6_put 29 = .ok (.ifCond .ne 7, 3) := by decide +kernel
theorem dX6_put_32 : decode cX6_put 32 = .ok (.iload_n 3, 1) := by decide +kernel
theorem dX6_put_33 : decode cX6_put 33 = .ok (.goto 11, 3) := by decide +kernel
theorem dX6_put_36 : decode cX6_put 36 = .ok (.iload_n 3, 1) := by decide +kernel
theorem dX6_put_37 : decode cX6_put 37 = .ok (.i2f, 1) := by decide +kernel
theorem dX6_put_38 : decode cX6_put 38 = .ok (.ldc 251, 2) := by decide +kernel
theorem dX6_put_40 : decode cX6_put 40 = .ok (.fdiv, 1) := by decide +kernel
theorem dX6_put_41 : decode cX6_put 41 = .ok (.invokestatic 151, 3) := by decide +kernel
theorem dX6_put_44 : decode cX6_put 44 = .ok (.iastore, 1) := by decide +kernel
theorem dX6_put_45 : decode cX6_put 45 = .ok (.iconst 1, 1) := by decide +kernel
theorem dX6_put_46 : decode cX6_put 46 = .ok (.ireturn, 1) := by decide +kernel
theorem dX6_item_0 : decode cX6_item 0 = .ok (.aload_n 0, 1) := by decide +kernel
theorem dX6_item_1 : decode cX6_item 1 = .ok (.iload_n 1, 1) := by decide +kernel
theorem dX6_item_2 : decode cX6_item 2 = .ok (.iload_n 2, 1) := by decide +kernel
theorem dX6_item_3 : decode cX6_item 3 = .ok (.invokevirtual 248, 3) := by decide +kernel
theorem dX6_item_6 : decode cX6_item 6 = .ok (.istore_n 3, 1) := by decide +kernel
theorem dX6_item_7 : decode cX6_item 7 = .ok (.iload_n 3, 1) := by decide +kernel
theorem dX6_item_8 : decode cX6_item 8 = .ok (.ifCond .eq 10, 3) := by decide +kernel
theorem dX6_item_11 : decode cX6_item 11 = .ok (.iload_n 3, 1) := by decide +kernel
theorem dX6_item_12 : decode cX6_item 12 = .ok (.invokestatic 165, 3) := by decide +kernel
theorem dX6_item_15 : decode cX6_item 15 = .ok (.goto 12, 3) := by decide +kernel
theorem dX6_item_18 : decode cX6_item 18 = .ok (.aload_n 0, 1) := by decide +kernel
theorem dX6_item_19 : decode cX6_item 19 = .ok (.getfield 78, 3) := by decide +kernel
theorem dX6_item_22 : decode cX6_item 22 = .ok (.iload_n 1, 1) := by decide +kernel
theorem dX6_item_23 : decode cX6_item 23 = .ok (.aaload, 1) := by decide +kernel
theorem dX6_item_24 : decode cX6_item 24 = .ok (.iload_n 2, 1) := by decide +kernel
theorem dX6_item_25 : decode cX6_item 25 = .ok (.iaload, 1) := by decide +kernel
theorem dX6_item_26 : decode cX6_item 26 = .ok (.i2l, 1) := by decide +kernel
theorem dX6_item_27 : decode cX6_item 27 = .ok (.lreturn, 1) := by decide +kernel
theorem dX6_copy_0 : decode cX6_copy 0 = .ok (.iload_n 1, 1) := by decide +kernel
theorem dX6_copy_1 : decode cX6_copy 1 = .ok (.invokestatic 227, 3) := by decide +kernel
theorem dX6_copy_4 : decode cX6_copy 4 = .ok (.ifCond .eq 10, 3) := by decide +kernel
theorem dX6_copy_7 : decode cX6_copy 7 = .ok (.iload_n 3, 1) := by decide +kernel
theorem dX6_copy_8 : decode cX6_copy 8 = .ok (.invokestatic 227, 3) := by decide +kernel
theorem dX6_copy_11 : decode cX6_copy 11 = .ok (.ifCond .ne 6, 3) := by decide +kernel
theorem dX6_copy_14 : decode cX6_copy 14 = .ok (.bipush (-2), 2) := by decide +kernel
theorem dX6_copy_16 : decode cX6_copy 16 = .ok (.ireturn, 1) := by decide +kernel
theorem dX6_copy_17 : decode cX6_copy 17 = .ok (.aload_n 0, 1) := by decide +kernel
theorem dX6_copy_18 : decode cX6_copy 18 = .ok (.getfield 72, 3) := by decide +kernel
theorem dX6_copy_21 : decode cX6_copy 21 = .ok (.iload_n 1, 1) := by decide +kernel
theorem dX6_copy_22 : decode cX6_copy 22 = .ok (.iaload, 1) := by decide +kernel
theorem dX6_copy_23 : decode cX6_copy 23 = .ok (.ifCond .lt 12, 3) := by decide +kernel
theorem dX6_copy_26 : decode cX6_copy 26 = .ok (.aload_n 0, 1) := by decide +kernel
theorem dX6_copy_27 : decode cX6_copy 27 = .ok (.getfield 72, 3) := by decide +kernel
theorem dX6_copy_30 : decode cX6_copy 30 = .ok (.iload_n 3, 1) := by decide +kernel
theorem dX6_copy_31 : decode cX6_copy 31 = .ok (.iaload, 1) := by decide +kernel
theorem dX6_copy_32 : decode cX6_copy 32 = .ok (.ifCond .ge 6, 3) := by decide +kernel
theorem dX6_copy_35 : decode cX6_copy 35 = .ok (.bipush (-11), 2) := by decide +kernel
theorem dX6_copy_37 : decode cX6_copy 37 = .ok (.ireturn, 1) := by decide +kernel
theorem dX6_copy_38 : decode cX6_copy 38 = .ok (.aload_n 0, 1) := by decide +kernel
theorem dX6_copy_39 : decode cX6_copy 39 = .ok (.getfield 72, 3) := by decide +kernel
theorem dX6_copy_42 : decode cX6_copy 42 = .ok (.iload_n 1, 1) := by decide +kernel
theorem dX6_copy_43 : decode cX6_copy 43 = .ok (.iaload, 1) := by decide +kernel
theorem dX6_copy_44 : decode cX6_copy 44 = .ok (.aload_n 0, 1) := by decide +kernel
theorem dX6_copy_45 : decode cX6_copy 45 = .ok (.getfield 72, 3) := by decide +kernel
theorem dX6_copy_48 : decode cX6_copy 48 = .ok (.iload_n 3, 1) := by decide +kernel
theorem dX6_copy_49 : decode cX6_copy 49 = .ok (.iaload, 1) := by decide +kernel
theorem dX6_copy_50 : decode cX6_copy 50 = .ok (.if_icmp .eq 6, 3) := by decide +kernel
theorem dX6_copy_53 : decode cX6_copy 53 = .ok (.bipush (-13), 2) := by decide +kernel
theorem dX6_copy_55 : decode cX6_copy 55 = .ok (.ireturn, 1) := by decide +kernel
theorem dX6_copy_56 : decode cX6_copy 56 = .ok (.iload 5, 2) := by decide +kernel
theorem dX6_copy_58 : decode cX6_copy 58 = .ok (.ifCond .lt 39, 3) := by decide +kernel
theorem dX6_copy_61 : decode cX6_copy 61 = .ok (.iload_n 2, 1) := by decide +kernel
theorem dX6_copy_62 : decode cX6_copy 62 = .ok (.ifCond .lt 35, 3) := by decide +kernel
theorem dX6_copy_65 : decode cX6_copy 65 = .ok (.iload 4, 2) := by decide +kernel
theorem dX6_copy_67 : decode cX6_copy 67 = .ok (.ifCond .lt 30, 3) := by decide +kernel
theorem dX6_copy_70 : decode cX6_copy 70 = .ok (.iload_n 2, 1) := by decide +kernel
theorem dX6_copy_71 : decode cX6_copy 71 = .ok (.aload_n 0, 1) := by decide +kernel
theorem dX6_copy_72 : decode cX6_copy 72 = .ok (.getfield 75, 3) := by decide +kernel
theorem dX6_copy_75 : decode cX6_copy 75 = .ok (.iload_n 1, 1) := by decide +kernel
theorem dX6_copy_76 : decode cX6_copy 76 = .ok (.iaload, 1) := by decide +kernel
theorem dX6_copy_77 : decode cX6_copy 77 = .ok (.iload 5, 2) := by decide +kernel
theorem dX6_copy_79 : decode cX6_copy 79 = .ok (.isub, 1) := by decide +kernel
theorem dX6_copy_80 : decode cX6_copy 80 = .ok (.if_icmp .gt 17, 3) := by decide +kernel
theorem dX6_copy_83 : decode cX6_copy 83 = .ok (.iload 4, 2) := by decide +kernel
theorem dX6_copy_85 : decode cX6_copy 85 = .ok (.aload_n 0, 1) := by decide +kernel
theorem dX6_copy_86 : decode cX6_copy 86 = .ok (.getfield 75, 3) := by decide +kernel
theorem dX6_copy_89 : decode cX6_copy 89 = .ok (.iload_n 3, 1) := by decide +kernel
theorem dX6_copy_90 : decode cX6_copy 90 = .ok (.iaload, 1) := by decide +kernel
theorem dX6_copy_91 : decode cX6_copy 91 = .ok (.iload 5, 2) := by decide +kernel
theorem dX6_copy_93 : decode cX6_copy 93 = .ok (.isub, 1) := by decide +kernel
theorem dX6_copy_94 : decode cX6_copy 94 = .ok (.if_icmp .le 6, 3) := by decide +kernel
theorem dX6_copy_97 : decode cX6_copy 97 = .ok (.bipush (-12), 2) := by decide +kernel
theorem dX6_copy_99 : decode cX6_copy 99 = .ok (.ireturn, 1) := by decide +kernel
theorem dX6_copy_100 : decode cX6_copy 100 = .ok (.aload_n 0, 1) := by decide +kernel
theorem dX6_copy_101 : decode cX6_copy 101 = .ok (.getfield 78, 3) := by decide +kernel
theorem dX6_copy_104 : decode cX6_copy 104 = .ok (.iload_n 1, 1) := by decide +kernel
theorem dX6_copy_105 : decode cX6_copy 105 = .ok (.aaload, 1) := by decide +kernel
theorem dX6_copy_106 : decode cX6_copy 106 = .ok (.iload_n 2, 1) := by decide +kernel
theorem dX6_copy_107 : decode cX6_copy 107 = .ok (.aload_n 0, 1) := by decide +kernel
theorem dX6_copy_108 : decode cX6_copy 108 = .ok (.getfield 81, 3) := by decide +kernel
theorem dX6_copy_111 : decode cX6_copy 111 = .ok (.iconst 0, 1) := by decide +kernel
theorem dX6_copy_112 : decode cX6_copy 112 = .ok (.iload 5, 2) := by decide +kernel
theorem dX6_copy_114 : decode cX6_copy 114 = .ok (.invokestatic 98, 3) := by decide +kernel
theorem dX6_copy_117 : decode cX6_copy 117 = .ok (.aload_n 0, 1) := by decide +kernel
theorem dX6_copy_118 : decode cX6_copy 118 = .ok (.getfield 81, 3) := by decide +kernel
theorem dX6_copy_121 : decode cX6_copy 121 = .ok (.iconst 0, 1) := by decide +kernel
theorem dX6_copy_122 : decode cX6_copy 122 = .ok (.aload_n 0, 1) := by decide +kernel
theorem dX6_copy_123 : decode cX6_copy 123 = .ok (.getfield 78, 3) := by decide +kernel
theorem dX6_copy_126 : decode cX6_copy 126 = .ok (.iload_n 3, 1) := by decide +kernel
theorem dX6_copy_127 : decode cX6_copy 127 = .ok (.aaload, 1) := by decide +kernel
theorem dX6_copy_128 : decode cX6_copy 128 = .ok (.iload 4, 2) := by decide +kernel
theorem dX6_copy_130 : decode cX6_copy 130 = .ok (.iload 5, 2) := by decide +kernel
theorem dX6_copy_132 : decode cX6_copy 132 = .ok (.invokestatic 98, 3) := by decide +kernel
theorem dX6_copy_135 : decode cX6_copy 135 = .ok (.iload 5, 2) := by decide +kernel
theorem dX6_copy_137 : decode cX6_copy 137 = .ok (.ireturn, 1) := by decide +kernel
theorem dJxf58ca_isNaN_12338_0 : decode cJxf58ca_isNaN_12338 0 = .ok (.fload_n 0, 1) := by decide +kernel
theorem dJxf58ca_isNaN_12338_1 : decode cJxf58ca_isNaN_12338 1 = .ok (.fload_n 0, 1) := by decide +kernel
theorem dJxf58ca_isNaN_12338_2 : decode cJxf58ca_isNaN_12338 2 = .ok (.fcmp .l, 1) := by decide +kernel
theorem dJxf58ca_isNaN_12338_3 : decode cJxf58ca_isNaN_12338 3 = .ok (.ifCond .eq 7, 3) := by decide +kernel
theorem dJxf58ca_isNaN_12338_6 : decode cJxf58ca_isNaN_12338 6 = .ok (.iconst 1, 1) := by decide +kernel
theorem dJxf58ca_isNaN_12338_7 : decode cJxf58ca_isNaN_12338 7 = .ok (.goto 4, 3) := by decide +kernel
theorem dJxf58ca_isNaN_12338_10 : decode cJxf58ca_isNaN_12338 10 = .ok (.iconst 0, 1) := by decide +kernel
theorem dJxf58ca_isNaN_12338_11 : decode cJxf58ca_isNaN_12338 11 = .ok (.ireturn, 1) := by decide +kernel
theorem dJxf58ca_floatToIntBits_5c35a_0 : decode cJxf58ca_floatToIntBits_5c35a 0 = .ok (.fload_n 0, 1) := by decide +kernel
theorem dJxf58ca_floatToIntBits_5c35a_1 : decode cJxf58ca_floatToIntBits_5c35a 1 = .ok (.invokestatic 59, 3) := by decide +kernel
theorem dJxf58ca_floatToIntBits_5c35a_4 : decode cJxf58ca_floatToIntBits_5c35a 4 = .ok (.ifCond .ne 8, 3) := by decide +kernel
theorem dJxf58ca_floatToIntBits_5c35a_7 : decode cJxf58ca_floatToIntBits_5c35a 7 = .ok (.fload_n 0, 1) := by decide +kernel
theorem dJxf58ca_floatToIntBits_5c35a_8 : decode cJxf58ca_floatToIntBits_5c35a 8 = .ok (.invokestatic 74, 3) := by decide +kernel
theorem dJxf58ca_floatToIntBits_5c35a_11 : decode cJxf58ca_floatToIntBits_5c35a 11 = .ok (.ireturn, 1) := by decide +kernel
theorem dJxf58ca_floatToIntBits_5c35a_12 : decode cJxf58ca_floatToIntBits_5c35a 12 = .ok (.ldc 77, 2) := by decide +kernel
theorem dJxf58ca_floatToIntBits_5c35a_14 : decode cJxf58ca_floatToIntBits_5c35a 14 = .ok (.ireturn, 1) := by decide +kernel
theorem dJ6_bitCount_0f7a4_0 : decode cJ6_bitCount_0f7a4 0 = .ok (.iload_n 0, 1) := by decide +kernel
theorem dJ6_bitCount_0f7a4_1 : decode cJ6_bitCount_0f7a4 1 = .ok (.iload_n 0, 1) := by decide +kernel
theorem dJ6_bitCount_0f7a4_2 : decode cJ6_bitCount_0f7a4 2 = .ok (.iconst 1, 1) := by decide +kernel
theorem dJ6_bitCount_0f7a4_3 : decode cJ6_bitCount_0f7a4 3 = .ok (.iushr, 1) := by decide +kernel
theorem dJ6_bitCount_0f7a4_4 : decode cJ6_bitCount_0f7a4 4 = .ok (.ldc_w 265, 3) := by decide +kernel
theorem dJ6_bitCount_0f7a4_7 : decode cJ6_bitCount_0f7a4 7 = .ok (.iand, 1) := by decide +kernel
theorem dJ6_bitCount_0f7a4_8 : decode cJ6_bitCount_0f7a4 8 = .ok (.isub, 1) := by decide +kernel
theorem dJ6_bitCount_0f7a4_9 : decode cJ6_bitCount_0f7a4 9 = .ok (.istore_n 0, 1) := by decide +kernel
theorem dJ6_bitCount_0f7a4_10 : decode cJ6_bitCount_0f7a4 10 = .ok (.iload_n 0, 1) := by decide +kernel
theorem dJ6_bitCount_0f7a4_11 : decode cJ6_bitCount_0f7a4 11 = .ok (.ldc_w 266, 3) := by decide +kernel
theorem dJ6_bitCount_0f7a4_14 : decode cJ6_bitCount_0f7a4 14 = .ok (.iand, 1) := by decide +kernel
theorem dJ6_bitCount_0f7a4_15 : decode cJ6_bitCount_0f7a4 15 = .ok (.iload_n 0, 1) := by decide +kernel
theorem dJ6_bitCount_0f7a4_16 : decode cJ6_bitCount_0f7a4 16 = .ok (.iconst 2, 1) := by decide +kernel
theorem dJ6_bitCount_0f7a4_17 : decode cJ6_bitCount_0f7a4 17 = .ok (.iushr, 1) := by decide +kernel
theorem dJ6_bitCount_0f7a4_18 : decode cJ6_bitCount_0f7a4 18 = .ok (.ldc_w 266, 3) := by decide +kernel
theorem dJ6_bitCount_0f7a4_21 : decode cJ6_bitCount_0f7a4 21 = .ok (.iand, 1) := by decide +kernel
theorem dJ6_bitCount_0f7a4_22 : decode cJ6_bitCount_0f7a4 22 = .ok (.iadd, 1) := by decide +kernel
theorem dJ6_bitCount_0f7a4_23 : decode cJ6_bitCount_0f7a4 23 = .ok (.istore_n 0, 1) := by decide +kernel
theorem dJ6_bitCount_0f7a4_24 : decode cJ6_bitCount_0f7a4 24 = .ok (.iload_n 0, 1) := by decide +kernel
theorem dJ6_bitCount_0f7a4_25 : decode cJ6_bitCount_0f7a4 25 = .ok (.iload_n 0, 1) := by decide +kernel
theorem dJ6_bitCount_0f7a4_26 : decode cJ6_bitCount_0f7a4 26 = .ok (.iconst 4, 1) := by decide +kernel
theorem dJ6_bitCount_0f7a4_27 : decode cJ6_bitCount_0f7a4 27 = .ok (.iushr, 1) := by decide +kernel
theorem dJ6_bitCount_0f7a4_28 : decode cJ6_bitCount_0f7a4 28 = .ok (.iadd, 1) := by decide +kernel
theorem dJ6_bitCount_0f7a4_29 : decode cJ6_bitCount_0f7a4 29 = .ok (.ldc_w 267, 3) := by decide +kernel
theorem dJ6_bitCount_0f7a4_32 : decode cJ6_bitCount_0f7a4 32 = .ok (.iand, 1) := by decide +kernel
theorem dJ6_bitCount_0f7a4_33 : decode cJ6_bitCount_0f7a4 33 = .ok (.istore_n 0, 1) := by decide +kernel
theorem dJ6_bitCount_0f7a4_34 : decode cJ6_bitCount_0f7a4 34 = .ok (.iload_n 0, 1) := by decide +kernel
theorem dJ6_bitCount_0f7a4_35 : decode cJ6_bitCount_0f7a4 35 = .ok (.iload_n 0, 1) := by decide +kernel
theorem dJ6_bitCount_0f7a4_36 : decode cJ6_bitCount_0f7a4 36 = .ok (.bipush 8, 2) := by decide +kernel
theorem dJ6_bitCount_0f7a4_38 : decode cJ6_bitCount_0f7a4 38 = .ok (.iushr, 1) := by decide +kernel
theorem dJ6_bitCount_0f7a4_39 : decode cJ6_bitCount_0f7a4 39 = .ok (.iadd, 1) := by decide +kernel
theorem dJ6_bitCount_0f7a4_40 : decode cJ6_bitCount_0f7a4 40 = .ok (.istore_n 0, 1) := by decide +kernel
theorem dJ6_bitCount_0f7a4_41 : decode cJ6_bitCount_0f7a4 41 = .ok (.iload_n 0, 1) := by decide +kernel
theorem dJ6_bitCount_0f7a4_42 : decode cJ6_bitCount_0f7a4 42 = .ok (.iload_n 0, 1) := by decide +kernel
theorem dJ6_bitCount_0f7a4_43 : decode cJ6_bitCount_0f7a4 43 = .ok (.bipush 16, 2) := by decide +kernel
theorem dJ6_bitCount_0f7a4_45 : decode cJ6_bitCount_0f7a4 45 = .ok (.iushr, 1) := by decide +kernel
theorem dJ6_bitCount_0f7a4_46 : decode cJ6_bitCount_0f7a4 46 = .ok (.iadd, 1) := by decide +kernel
theorem dJ6_bitCount_0f7a4_47 : decode cJ6_bitCount_0f7a4 47 = .ok (.istore_n 0, 1) := by decide +kernel
theorem dJ6_bitCount_0f7a4_48 : decode cJ6_bitCount_0f7a4 48 = .ok (.iload_n 0, 1) := by decide +kernel
theorem dJ6_bitCount_0f7a4_49 : decode cJ6_bitCount_0f7a4 49 = .ok (.bipush 63, 2) := by decide +kernel
theorem dJ6_bitCount_0f7a4_51 : decode cJ6_bitCount_0f7a4 51 = .ok (.iand, 1) := by decide +kernel
theorem dJ6_bitCount_0f7a4_52 : decode cJ6_bitCount_0f7a4 52 = .ok (.ireturn, 1) := by decide +kernel
theorem dJ9_max_7cf53_0 : decode cJ9_max_7cf53 0 = .ok (.iload_n 0, 1) := by decide +kernel
theorem dJ9_max_7cf53_1 : decode cJ9_max_7cf53 1 = .ok (.iload_n 1, 1) := by decide +kernel
theorem dJ9_max_7cf53_2 : decode cJ9_max_7cf53 2 = .ok (.if_icmp .lt 7, 3) := by decide +kernel
theorem dJ9_max_7cf53_5 : decode cJ9_max_7cf53 5 = .ok (.iload_n 0, 1) := by decide +kernel
theorem dJ9_max_7cf53_6 : decode cJ9_max_7cf53 6 = .ok (.goto 4, 3) := by decide +kernel
theorem dJ9_max_7cf53_9 : decode cJ9_max_7cf53 9 = .ok (.iload_n 1, 1) := by decide +kernel
theorem dJ9_max_7cf53_10 : decode cJ9_max_7cf53 10 = .ok (.ireturn, 1) := by decide +kernel
theorem dL_law_0 : decode cL_law 0 = .ok (.new 7, 3) := by decide +kernel
theorem dL_law_3 : decode cL_law 3 = .ok (.dup, 1) := by decide +kernel
theorem dL_law_4 : decode cL_law 4 = .ok (.invokespecial 9, 3) := by decide +kernel
theorem dL_law_7 : decode cL_law 7 = .ok (.astore_n 1, 1) := by decide +kernel
theorem dL_law_8 : decode cL_law 8 = .ok (.new 10, 3) := by decide +kernel
theorem dL_law_11 : decode cL_law 11 = .ok (.dup, 1) := by decide +kernel
theorem dL_law_12 : decode cL_law 12 = .ok (.invokespecial 12, 3) := by decide +kernel
theorem dL_law_15 : decode cL_law 15 = .ok (.astore_n 2, 1) := by decide +kernel
theorem dL_law_16 : decode cL_law 16 = .ok (.iconst 0, 1) := by decide +kernel
theorem dL_law_17 : decode cL_law 17 = .ok (.istore_n 3, 1) := by decide +kernel
theorem dL_law_18 : decode cL_law 18 = .ok (.iload_n 3, 1) := by decide +kernel
theorem dL_law_19 : decode cL_law 19 = .ok (.aload_n 0, 1) := by decide +kernel
theorem dL_law_20 : decode cL_law 20 = .ok (.arraylength, 1) := by decide +kernel
theorem dL_law_21 : decode cL_law 21 = .ok (.bipush 7, 2) := by decide +kernel
theorem dL_law_23 : decode cL_law 23 = .ok (.isub, 1) := by decide +kernel
theorem dL_law_24 : decode cL_law 24 = .ok (.if_icmp .gt 1281, 3) := by decide +kernel
theorem dL_law_27 : decode cL_law 27 = .ok (.aload_n 0, 1) := by decide +kernel
theorem dL_law_28 : decode cL_law 28 = .ok (.iload_n 3, 1) := by decide +kernel
theorem dL_law_29 : decode cL_law 29 = .ok (.iaload, 1) := by decide +kernel
theorem dL_law_30 : decode cL_law 30 = .ok (.bipush 31, 2) := by decide +kernel
theorem dL_law_32 : decode cL_law 32 = .ok (.iand, 1) := by decide +kernel
theorem dL_law_33 : decode cL_law 33 = .ok (.tableswitch 1266 0 27 #[127, 180, 233, 266, 309, 352, 396, 439, 482, 535, 578, 601, 624, 647, 680, 714, 757, 852, 885, 928, 981, 1034, 1047, 1060, 1083, 1126, 1169, 1203], 127) := by decide +kernel
theorem dL_law_160 : decode cL_law 160 = .ok (.aload_n 1, 1) := by decide +kernel
theorem dL_law_161 : decode cL_law 161 = .ok (.aload_n 0, 1) := by decide +kernel
theorem dL_law_162 : decode cL_law 162 = .ok (.iload_n 3, 1) := by decide +kernel
theorem dL_law_163 : decode cL_law 163 = .ok (.iconst 1, 1) := by decide +kernel
theorem dL_law_164 : decode cL_law 164 = .ok (.iadd, 1) := by decide +kernel
theorem dL_law_165 : decode cL_law 165 = .ok (.iaload, 1) := by decide +kernel
theorem dL_law_166 : decode cL_law 166 = .ok (.aload_n 0, 1) := by decide +kernel
theorem dL_law_167 : decode cL_law 167 = .ok (.iload_n 3, 1) := by decide +kernel
theorem dL_law_168 : decode cL_law 168 = .ok (.iconst 2, 1) := by decide +kernel
theorem dL_law_169 : decode cL_law 169 = .ok (.iadd, 1) := by decide +kernel
theorem dL_law_170 : decode cL_law 170 = .ok (.iaload, 1) := by decide +kernel
theorem dL_law_171 : decode cL_law 171 = .ok (.aload_n 0, 1) := by decide +kernel
theorem dL_law_172 : decode cL_law 172 = .ok (.iload_n 3, 1) := by decide +kernel
theorem dL_law_173 : decode cL_law 173 = .ok (.iconst 3, 1) := by decide +kernel
theorem dL_law_174 : decode cL_law 174 = .ok (.iadd, 1) := by decide +kernel
theorem dL_law_175 : decode cL_law 175 = .ok (.iaload, 1) := by decide +kernel
theorem dL_law_176 : decode cL_law 176 = .ok (.aload_n 0, 1) := by decide +kernel
theorem dL_law_177 : decode cL_law 177 = .ok (.iload_n 3, 1) := by decide +kernel
theorem dL_law_178 : decode cL_law 178 = .ok (.iconst 4, 1) := by decide +kernel
theorem dL_law_179 : decode cL_law 179 = .ok (.iadd, 1) := by decide +kernel
theorem dL_law_180 : decode cL_law 180 = .ok (.iaload, 1) := by decide +kernel
theorem dL_law_181 : decode cL_law 181 = .ok (.invokevirtual 13, 3) := by decide +kernel
theorem dL_law_184 : decode cL_law 184 = .ok (.aload_n 2, 1) := by decide +kernel
theorem dL_law_185 : decode cL_law 185 = .ok (.aload_n 0, 1) := by decide +kernel
theorem dL_law_186 : decode cL_law 186 = .ok (.iload_n 3, 1) := by decide +kernel
theorem dL_law_187 : decode cL_law 187 = .ok (.iconst 1, 1) := by decide +kernel
theorem dL_law_188 : decode cL_law 188 = .ok (.iadd, 1) := by decide +kernel
theorem dL_law_189 : decode cL_law 189 = .ok (.iaload, 1) := by decide +kernel
theorem dL_law_190 : decode cL_law 190 = .ok (.aload_n 0, 1) := by decide +kernel
theorem dL_law_191 : decode cL_law 191 = .ok (.iload_n 3, 1) := by decide +kernel
theorem dL_law_192 : decode cL_law 192 = .ok (.iconst 2, 1) := by decide +kernel
theorem dL_law_193 : decode cL_law 193 = .ok (.iadd, 1) := by decide +kernel
theorem dL_law_194 : decode cL_law 194 = .ok (.iaload, 1) := by decide +kernel
theorem dL_law_195 : decode cL_law 195 = .ok (.aload_n 0, 1) := by decide +kernel
theorem dL_law_196 : decode cL_law 196 = .ok (.iload_n 3, 1) := by decide +kernel
theorem dL_law_197 : decode cL_law 197 = .ok (.iconst 3, 1) := by decide +kernel
theorem dL_law_198 : decode cL_law 198 = .ok (.iadd, 1) := by decide +kernel
theorem dL_law_199 : decode cL_law 199 = .ok (.iaload, 1) := by decide +kernel
theorem dL_law_200 : decode cL_law 200 = .ok (.aload_n 0, 1) := by decide +kernel
theorem dL_law_201 : decode cL_law 201 = .ok (.iload_n 3, 1) := by decide +kernel
theorem dL_law_202 : decode cL_law 202 = .ok (.iconst 4, 1) := by decide +kernel
theorem dL_law_203 : decode cL_law 203 = .ok (.iadd, 1) := by decide +kernel
theorem dL_law_204 : decode cL_law 204 = .ok (.iaload, 1) := by decide +kernel
theorem dL_law_205 : decode cL_law 205 = .ok (.invokevirtual 17, 3) := by decide +kernel
theorem dL_law_208 : decode cL_law 208 = .ok (.if_icmp .eq 1091, 3) := by decide +kernel
theorem dL_law_211 : decode cL_law 211 = .ok (.iconst 0, 1) := by decide +kernel
theorem dL_law_212 : decode cL_law 212 = .ok (.ireturn, 1) := by decide +kernel
theorem dL_law_213 : decode cL_law 213 = .ok (.aload_n 1, 1) := by decide +kernel
theorem dL_law_214 : decode cL_law 214 = .ok (.aload_n 0, 1) := by decide +kernel
theorem dL_law_215 : decode cL_law 215 = .ok (.iload_n 3, 1) := by decide +kernel
theorem dL_law_216 : decode cL_law 216 = .ok (.iconst 1, 1) := by decide +kernel
theorem dL_law_217 : decode cL_law 217 = .ok (.iadd, 1) := by decide +kernel
theorem dL_law_218 : decode cL_law 218 = .ok (.iaload, 1) := by decide +kernel
theorem dL_law_219 : decode cL_law 219 = .ok (.aload_n 0, 1) := by decide +kernel
theorem dL_law_220 : decode cL_law 220 = .ok (.iload_n 3, 1) := by decide +kernel
theorem dL_law_221 : decode cL_law 221 = .ok (.iconst 2, 1) := by decide +kernel
theorem dL_law_222 : decode cL_law 222 = .ok (.iadd, 1) := by decide +kernel
theorem dL_law_223 : decode cL_law 223 = .ok (.iaload, 1) := by decide +kernel
theorem dL_law_224 : decode cL_law 224 = .ok (.aload_n 0, 1) := by decide +kernel
theorem dL_law_225 : decode cL_law 225 = .ok (.iload_n 3, 1) := by decide +kernel
theorem dL_law_226 : decode cL_law 226 = .ok (.iconst 3, 1) := by decide +kernel
theorem dL_law_227 : decode cL_law 227 = .ok (.iadd, 1) := by decide +kernel
theorem dL_law_228 : decode cL_law 228 = .ok (.iaload, 1) := by decide +kernel
theorem dL_law_229 : decode cL_law 229 = .ok (.aload_n 0, 1) := by decide +kernel
theorem dL_law_230 : decode cL_law 230 = .ok (.iload_n 3, 1) := by decide +kernel
theorem dL_law_231 : decode cL_law 231 = .ok (.iconst 4, 1) := by decide +kernel
theorem dL_law_232 : decode cL_law 232 = .ok (.iadd, 1) := by decide +kernel
theorem dL_law_233 : decode cL_law 233 = .ok (.iaload, 1) := by decide +kernel
theorem dL_law_234 : decode cL_law 234 = .ok (.invokevirtual 18, 3) := by decide +kernel
theorem dL_law_237 : decode cL_law 237 = .ok (.aload_n 2, 1) := by decide +kernel
theorem dL_law_238 : decode cL_law 238 = .ok (.aload_n 0, 1) := by decide +kernel
theorem dL_law_239 : decode cL_law 239 = .ok (.iload_n 3, 1) := by decide +kernel
theorem dL_law_240 : decode cL_law 240 = .ok (.iconst 1, 1) := by decide +kernel
theorem dL_law_241 : decode cL_law 241 = .ok (.iadd, 1) := by decide +kernel
theorem dL_law_242 : decode cL_law 242 = .ok (.iaload, 1) := by decide +kernel
theorem dL_law_243 : decode cL_law 243 = .ok (.aload_n 0, 1) := by decide +kernel
theorem dL_law_244 : decode cL_law 244 = .ok (.iload_n 3, 1) := by decide +kernel
theorem dL_law_245 : decode cL_law 245 = .ok (.iconst 2, 1) := by decide +kernel
theorem dL_law_246 : decode cL_law 246 = .ok (.iadd, 1) := by decide +kernel
theorem dL_law_247 : decode cL_law 247 = .ok (.iaload, 1) := by decide +kernel
theorem dL_law_248 : decode cL_law 248 = .ok (.aload_n 0, 1) := by decide +kernel
theorem dL_law_249 : decode cL_law 249 = .ok (.iload_n 3, 1) := by decide +kernel
theorem dL_law_250 : decode cL_law 250 = .ok (.iconst 3, 1) := by decide +kernel
theorem dL_law_251 : decode cL_law 251 = .ok (.iadd, 1) := by decide +kernel
theorem dL_law_252 : decode cL_law 252 = .ok (.iaload, 1) := by decide +kernel
theorem dL_law_253 : decode cL_law 253 = .ok (.aload_n 0, 1) := by decide +kernel
theorem dL_law_254 : decode cL_law 254 = .ok (.iload_n 3, 1) := by decide +kernel
theorem dL_law_255 : decode cL_law 255 = .ok (.iconst 4, 1) := by decide +kernel
theorem dL_law_256 : decode cL_law 256 = .ok (.iadd, 1) := by decide +kernel
theorem dL_law_257 : decode cL_law 257 = .ok (.iaload, 1) := by decide +kernel
theorem dL_law_258 : decode cL_law 258 = .ok (.invokevirtual 21, 3) := by decide +kernel
theorem dL_law_261 : decode cL_law 261 = .ok (.if_icmp .eq 1038, 3) := by decide +kernel
theorem dL_law_264 : decode cL_law 264 = .ok (.iconst 0, 1) := by decide +kernel
theorem dL_law_265 : decode cL_law 265 = .ok (.ireturn, 1) := by decide +kernel
theorem dL_law_266 : decode cL_law 266 = .ok (.aload_n 1, 1) := by decide +kernel
theorem dL_law_267 : decode cL_law 267 = .ok (.aload_n 0, 1) := by decide +kernel
theorem dL_law_268 : decode cL_law 268 = .ok (.iload_n 3, 1) := by decide +kernel
theorem dL_law_269 : decode cL_law 269 = .ok (.iconst 1, 1) := by decide +kernel
theorem dL_law_270 : decode cL_law 270 = .ok (.iadd, 1) := by decide +kernel
theorem dL_law_271 : decode cL_law 271 = .ok (.iaload, 1) := by decide +kernel
theorem dL_law_272 : decode cL_law 272 = .ok (.aload_n 0, 1) := by decide +kernel
theorem dL_law_273 : decode cL_law 273 = .ok (.iload_n 3, 1) := by decide +kernel
theorem dL_law_274 : decode cL_law 274 = .ok (.iconst 2, 1) := by decide +kernel
theorem dL_law_275 : decode cL_law 275 = .ok (.iadd, 1) := by decide +kernel
theorem dL_law_276 : decode cL_law 276 = .ok (.iaload, 1) := by decide +kernel
theorem dL_law_277 : decode cL_law 277 = .ok (.invokevirtual 22, 3) := by decide +kernel
theorem dL_law_280 : decode cL_law 280 = .ok (.aload_n 2, 1) := by decide +kernel
theorem dL_law_281 : decode cL_law 281 = .ok (.aload_n 0, 1) := by decide +kernel
theorem dL_law_282 : decode cL_law 282 = .ok (.iload_n 3, 1) := by decide +kernel
theorem dL_law_283 : decode cL_law 283 = .ok (.iconst 1, 1) := by decide +kernel
theorem dL_law_284 : decode cL_law 284 = .ok (.iadd, 1) := by decide +kernel
theorem dL_law_285 : decode cL_law 285 = .ok (.iaload, 1) := by decide +kernel
theorem dL_law_286 : decode cL_law 286 = .ok (.aload_n 0, 1) := by decide +kernel
theorem dL_law_287 : decode cL_law 287 = .ok (.iload_n 3, 1) := by decide +kernel
theorem dL_law_288 : decode cL_law 288 = .ok (.iconst 2, 1) := by decide +kernel
theorem dL_law_289 : decode cL_law 289 = .ok (.iadd, 1) := by decide +kernel
theorem dL_law_290 : decode cL_law 290 = .ok (.iaload, 1) := by decide +kernel
theorem dL_law_291 : decode cL_law 291 = .ok (.invokevirtual 26, 3) := by decide +kernel
theorem dL_law_294 : decode cL_law 294 = .ok (.if_icmp .eq 1005, 3) := by decide +kernel
theorem dL_law_297 : decode cL_law 297 = .ok (.iconst 0, 1) := by decide +kernel
theorem dL_law_298 : decode cL_law 298 = .ok (.ireturn, 1) := by decide +kernel
theorem dL_law_299 : decode cL_law 299 = .ok (.aload_n 1, 1) := by decide +kernel
theorem dL_law_300 : decode cL_law 300 = .ok (.aload_n 0, 1) := by decide +kernel
theorem dL_law_301 : decode cL_law 301 = .ok (.iload_n 3, 1) := by decide +kernel
theorem dL_law_302 : decode cL_law 302 = .ok (.iconst 1, 1) := by decide +kernel
theorem dL_law_303 : decode cL_law 303 = .ok (.iadd, 1) := by decide +kernel
theorem dL_law_304 : decode cL_law 304 = .ok (.iaload, 1) := by decide +kernel
theorem dL_law_305 : decode cL_law 305 = .ok (.aload_n 0, 1) := by decide +kernel
theorem dL_law_306 : decode cL_law 306 = .ok (.iload_n 3, 1) := by decide +kernel
theorem dL_law_307 : decode cL_law 307 = .ok (.iconst 2, 1) := by decide +kernel
theorem dL_law_308 : decode cL_law 308 = .ok (.iadd, 1) := by decide +kernel
theorem dL_law_309 : decode cL_law 309 = .ok (.iaload, 1) := by decide +kernel
theorem dL_law_310 : decode cL_law 310 = .ok (.aload_n 0, 1) := by decide +kernel
theorem dL_law_311 : decode cL_law 311 = .ok (.iload_n 3, 1) := by decide +kernel
theorem dL_law_312 : decode cL_law 312 = .ok (.iconst 3, 1) := by decide +kernel
theorem dL_law_313 : decode cL_law 313 = .ok (.iadd, 1) := by decide +kernel
theorem dL_law_314 : decode cL_law 314 = .ok (.iaload, 1) := by decide +kernel
theorem dL_law_315 : decode cL_law 315 = .ok (.invokevirtual 27, 3) := by decide +kernel
theorem dL_law_318 : decode cL_law 318 = .ok (.aload_n 2, 1) := by decide +kernel
theorem dL_law_319 : decode cL_law 319 = .ok (.aload_n 0, 1) := by decide +kernel
theorem dL_law_320 : decode cL_law 320 = .ok (.iload_n 3, 1) := by decide +kernel
theorem dL_law_321 : decode cL_law 321 = .ok (.iconst 1, 1) := by decide +kernel
theorem dL_law_322 : decode cL_law 322 = .ok (.iadd, 1) := by decide +kernel
theorem dL_law_323 : decode cL_law 323 = .ok (.iaload, 1) := by decide +kernel
theorem dL_law_324 : decode cL_law 324 = .ok (.aload_n 0, 1) := by decide +kernel
theorem dL_law_325 : decode cL_law 325 = .ok (.iload_n 3, 1) := by decide +kernel
theorem dL_law_326 : decode cL_law 326 = .ok (.iconst 2, 1) := by decide +kernel
theorem dL_law_327 : decode cL_law 327 = .ok (.iadd, 1) := by decide +kernel
theorem dL_law_328 : decode cL_law 328 = .ok (.iaload, 1) := by decide +kernel
theorem dL_law_329 : decode cL_law 329 = .ok (.aload_n 0, 1) := by decide +kernel
theorem dL_law_330 : decode cL_law 330 = .ok (.iload_n 3, 1) := by decide +kernel
theorem dL_law_331 : decode cL_law 331 = .ok (.iconst 3, 1) := by decide +kernel
theorem dL_law_332 : decode cL_law 332 = .ok (.iadd, 1) := by decide +kernel
theorem dL_law_333 : decode cL_law 333 = .ok (.iaload, 1) := by decide +kernel
theorem dL_law_334 : decode cL_law 334 = .ok (.invokevirtual 31, 3) := by decide +kernel
theorem dL_law_337 : decode cL_law 337 = .ok (.if_icmp .eq 962, 3) := by decide +kernel
theorem dL_law_340 : decode cL_law 340 = .ok (.iconst 0, 1) := by decide +kernel
theorem dL_law_341 : decode cL_law 341 = .ok (.ireturn, 1) := by decide +kernel
theorem dL_law_342 : decode cL_law 342 = .ok (.aload_n 1, 1) := by decide +kernel
theorem dL_law_343 : decode cL_law 343 = .ok (.aload_n 0, 1) := by decide +kernel
theorem dL_law_344 : decode cL_law 344 = .ok (.iload_n 3, 1) := by decide +kernel
theorem dL_law_345 : decode cL_law 345 = .ok (.iconst 1, 1) := by decide +kernel
theorem dL_law_346 : decode cL_law 346 = .ok (.iadd, 1) := by decide +kernel
theorem dL_law_347 : decode cL_law 347 = .ok (.iaload, 1) := by decide +kernel
theorem dL_law_348 : decode cL_law 348 = .ok (.aload_n 0, 1) := by decide +kernel
theorem dL_law_349 : decode cL_law 349 = .ok (.iload_n 3, 1) := by decide +kernel
theorem dL_law_350 : decode cL_law 350 = .ok (.iconst 2, 1) := by decide +kernel
theorem dL_law_351 : decode cL_law 351 = .ok (.iadd, 1) := by decide +kernel
theorem dL_law_352 : decode cL_law 352 = .ok (.iaload, 1) := by decide +kernel
theorem dL_law_353 : decode cL_law 353 = .ok (.aload_n 0, 1) := by decide +kernel
theorem dL_law_354 : decode cL_law 354 = .ok (.iload_n 3, 1) := by decide +kernel
theorem dL_law_355 : decode cL_law 355 = .ok (.iconst 3, 1) := by decide +kernel
theorem dL_law_356 : decode cL_law 356 = .ok (.iadd, 1) := by decide +kernel
theorem dL_law_357 : decode cL_law 357 = .ok (.iaload, 1) := by decide +kernel
theorem dL_law_358 : decode cL_law 358 = .ok (.invokevirtual 32, 3) := by decide +kernel
theorem dL_law_361 : decode cL_law 361 = .ok (.aload_n 2, 1) := by decide +kernel
theorem dL_law_362 : decode cL_law 362 = .ok (.aload_n 0, 1) := by decide +kernel
theorem dL_law_363 : decode cL_law 363 = .ok (.iload_n 3, 1) := by decide +kernel
theorem dL_law_364 : decode cL_law 364 = .ok (.iconst 1, 1) := by decide +kernel
theorem dL_law_365 : decode cL_law 365 = .ok (.iadd, 1) := by decide +kernel
theorem dL_law_366 : decode cL_law 366 = .ok (.iaload, 1) := by decide +kernel
theorem dL_law_367 : decode cL_law 367 = .ok (.aload_n 0, 1) := by decide +kernel
theorem dL_law_368 : decode cL_law 368 = .ok (.iload_n 3, 1) := by decide +kernel
theorem dL_law_369 : decode cL_law 369 = .ok (.iconst 2, 1) := by decide +kernel
theorem dL_law_370 : decode cL_law 370 = .ok (.iadd, 1) := by decide +kernel
theorem dL_law_371 : decode cL_law 371 = .ok (.iaload, 1) := by decide +kernel
theorem dL_law_372 : decode cL_law 372 = .ok (.aload_n 0, 1) := by decide +kernel
theorem dL_law_373 : decode cL_law 373 = .ok (.iload_n 3, 1) := by decide +kernel
theorem dL_law_374 : decode cL_law 374 = .ok (.iconst 3, 1) := by decide +kernel
theorem dL_law_375 : decode cL_law 375 = .ok (.iadd, 1) := by decide +kernel
theorem dL_law_376 : decode cL_law 376 = .ok (.iaload, 1) := by decide +kernel
theorem dL_law_377 : decode cL_law 377 = .ok (.invokevirtual 35, 3) := by decide +kernel
theorem dL_law_380 : decode cL_law 380 = .ok (.if_icmp .eq 919, 3) := by decide +kernel
theorem dL_law_383 : decode cL_law 383 = .ok (.iconst 0, 1) := by decide +kernel
theorem dL_law_384 : decode cL_law 384 = .ok (.ireturn, 1) := by decide +kernel
theorem dL_law_385 : decode cL_law 385 = .ok (.aload_n 1, 1) := by decide +kernel
theorem dL_law_386 : decode cL_law 386 = .ok (.aload_n 0, 1) := by decide +kernel
theorem dL_law_387 : decode cL_law 387 = .ok (.iload_n 3, 1) := by decide +kernel
theorem dL_law_388 : decode cL_law 388 = .ok (.iconst 1, 1) := by decide +kernel
theorem dL_law_389 : decode cL_law 389 = .ok (.iadd, 1) := by decide +kernel
theorem dL_law_390 : decode cL_law 390 = .ok (.iaload, 1) := by decide +kernel
theorem dL_law_391 : decode cL_law 391 = .ok (.aload_n 0, 1) := by decide +kernel
theorem dL_law_392 : decode cL_law 392 = .ok (.iload_n 3, 1) := by decide +kernel
theorem dL_law_393 : decode cL_law 393 = .ok (.iconst 2, 1) := by decide +kernel
theorem dL_law_394 : decode cL_law 394 = .ok (.iadd, 1) := by decide +kernel
theorem dL_law_395 : decode cL_law 395 = .ok (.iaload, 1) := by decide +kernel
theorem dL_law_396 : decode cL_law 396 = .ok (.aload_n 0, 1) := by decide +kernel
theorem dL_law_397 : decode cL_law 397 = .ok (.iload_n 3, 1) := by decide +kernel
theorem dL_law_398 : decode cL_law 398 = .ok (.iconst 3, 1) := by decide +kernel
theorem dL_law_399 : decode cL_law 399 = .ok (.iadd, 1) := by decide +kernel
theorem dL_law_400 : decode cL_law 400 = .ok (.iaload, 1) := by decide +kernel
theorem dL_law_401 : decode cL_law 401 = .ok (.invokevirtual 36, 3) := by decide +kernel
theorem dL_law_404 : decode cL_law 404 = .ok (.aload_n 2, 1) := by decide +kernel
theorem dL_law_405 : decode cL_law 405 = .ok (.aload_n 0, 1) := by decide +kernel
theorem dL_law_406 : decode cL_law 406 = .ok (.iload_n 3, 1) := by decide +kernel
theorem dL_law_407 : decode cL_law 407 = .ok (.iconst 1, 1) := by decide +kernel
theorem dL_law_408 : decode cL_law 408 = .ok (.iadd, 1) := by decide +kernel
theorem dL_law_409 : decode cL_law 409 = .ok (.iaload, 1) := by decide +kernel
theorem dL_law_410 : decode cL_law 410 = .ok (.aload_n 0, 1) := by decide +kernel
theorem dL_law_411 : decode cL_law 411 = .ok (.iload_n 3, 1) := by decide +kernel
theorem dL_law_412 : decode cL_law 412 = .ok (.iconst 2, 1) := by decide +kernel
theorem dL_law_413 : decode cL_law 413 = .ok (.iadd, 1) := by decide +kernel
theorem dL_law_414 : decode cL_law 414 = .ok (.iaload, 1) := by decide +kernel
theorem dL_law_415 : decode cL_law 415 = .ok (.aload_n 0, 1) := by decide +kernel
theorem dL_law_416 : decode cL_law 416 = .ok (.iload_n 3, 1) := by decide +kernel
theorem dL_law_417 : decode cL_law 417 = .ok (.iconst 3, 1) := by decide +kernel
theorem dL_law_418 : decode cL_law 418 = .ok (.iadd, 1) := by decide +kernel
theorem dL_law_419 : decode cL_law 419 = .ok (.iaload, 1) := by decide +kernel
theorem dL_law_420 : decode cL_law 420 = .ok (.invokevirtual 40, 3) := by decide +kernel
theorem dL_law_423 : decode cL_law 423 = .ok (.lcmp, 1) := by decide +kernel
theorem dL_law_424 : decode cL_law 424 = .ok (.ifCond .eq 875, 3) := by decide +kernel
theorem dL_law_427 : decode cL_law 427 = .ok (.iconst 0, 1) := by decide +kernel
theorem dL_law_428 : decode cL_law 428 = .ok (.ireturn, 1) := by decide +kernel
theorem dL_law_429 : decode cL_law 429 = .ok (.aload_n 1, 1) := by decide +kernel
theorem dL_law_430 : decode cL_law 430 = .ok (.aload_n 0, 1) := by decide +kernel
theorem dL_law_431 : decode cL_law 431 = .ok (.iload_n 3, 1) := by decide +kernel
theorem dL_law_432 : decode cL_law 432 = .ok (.iconst 1, 1) := by decide +kernel
theorem dL_law_433 : decode cL_law 433 = .ok (.iadd, 1) := by decide +kernel
theorem dL_law_434 : decode cL_law 434 = .ok (.iaload, 1) := by decide +kernel
theorem dL_law_435 : decode cL_law 435 = .ok (.aload_n 0, 1) := by decide +kernel
theorem dL_law_436 : decode cL_law 436 = .ok (.iload_n 3, 1) := by decide +kernel
theorem dL_law_437 : decode cL_law 437 = .ok (.iconst 2, 1) := by decide +kernel
theorem dL_law_438 : decode cL_law 438 = .ok (.iadd, 1) := by decide +kernel
theorem dL_law_439 : decode cL_law 439 = .ok (.iaload, 1) := by decide +kernel
theorem dL_law_440 : decode cL_law 440 = .ok (.aload_n 0, 1) := by decide +kernel
theorem dL_law_441 : decode cL_law 441 = .ok (.iload_n 3, 1) := by decide +kernel
theorem dL_law_442 : decode cL_law 442 = .ok (.iconst 3, 1) := by decide +kernel
theorem dL_law_443 : decode cL_law 443 = .ok (.iadd, 1) := by decide +kernel
theorem dL_law_444 : decode cL_law 444 = .ok (.iaload, 1) := by decide +kernel
theorem dL_law_445 : decode cL_law 445 = .ok (.invokevirtual 41, 3) := by decide +kernel
theorem dL_law_448 : decode cL_law 448 = .ok (.aload_n 2, 1) := by decide +kernel
theorem dL_law_449 : decode cL_law 449 = .ok (.aload_n 0, 1) := by decide +kernel
theorem dL_law_450 : decode cL_law 450 = .ok (.iload_n 3, 1) := by decide +kernel
theorem dL_law_451 : decode cL_law 451 = .ok (.iconst 1, 1) := by decide +kernel
theorem dL_law_452 : decode cL_law 452 = .ok (.iadd, 1) := by decide +kernel
theorem dL_law_453 : decode cL_law 453 = .ok (.iaload, 1) := by decide +kernel
theorem dL_law_454 : decode cL_law 454 = .ok (.aload_n 0, 1) := by decide +kernel
theorem dL_law_455 : decode cL_law 455 = .ok (.iload_n 3, 1) := by decide +kernel
theorem dL_law_456 : decode cL_law 456 = .ok (.iconst 2, 1) := by decide +kernel
theorem dL_law_457 : decode cL_law 457 = .ok (.iadd, 1) := by decide +kernel
theorem dL_law_458 : decode cL_law 458 = .ok (.iaload, 1) := by decide +kernel
theorem dL_law_459 : decode cL_law 459 = .ok (.aload_n 0, 1) := by decide +kernel
theorem dL_law_460 : decode cL_law 460 = .ok (.iload_n 3, 1) := by decide +kernel
theorem dL_law_461 : decode cL_law 461 = .ok (.iconst 3, 1) := by decide +kernel
theorem dL_law_462 : decode cL_law 462 = .ok (.iadd, 1) := by decide +kernel
theorem dL_law_463 : decode cL_law 463 = .ok (.iaload, 1) := by decide +kernel
theorem dL_law_464 : decode cL_law 464 = .ok (.invokevirtual 44, 3) := by decide +kernel
theorem dL_law_467 : decode cL_law 467 = .ok (.if_icmp .eq 832, 3) := by decide +kernel
theorem dL_law_470 : decode cL_law 470 = .ok (.iconst 0, 1) := by decide +kernel
theorem dL_law_471 : decode cL_law 471 = .ok (.ireturn, 1) := by decide +kernel
theorem dL_law_472 : decode cL_law 472 = .ok (.aload_n 1, 1) := by decide +kernel
theorem dL_law_473 : decode cL_law 473 = .ok (.aload_n 0, 1) := by decide +kernel
theorem dL_law_474 : decode cL_law 474 = .ok (.iload_n 3, 1) := by decide +kernel
theorem dL_law_475 : decode cL_law 475 = .ok (.iconst 1, 1) := by decide +kernel
theorem dL_law_476 : decode cL_law 476 = .ok (.iadd, 1) := by decide +kernel
theorem dL_law_477 : decode cL_law 477 = .ok (.iaload, 1) := by decide +kernel
theorem dL_law_478 : decode cL_law 478 = .ok (.aload_n 0, 1) := by decide +kernel
theorem dL_law_479 : decode cL_law 479 = .ok (.iload_n 3, 1) := by decide +kernel
theorem dL_law_480 : decode cL_law 480 = .ok (.iconst 2, 1) := by decide +kernel
theorem dL_law_481 : decode cL_law 481 = .ok (.iadd, 1) := by decide +kernel
theorem dL_law_482 : decode cL_law 482 = .ok (.iaload, 1) := by decide +kernel
theorem dL_law_483 : decode cL_law 483 = .ok (.aload_n 0, 1) := by decide +kernel
theorem dL_law_484 : decode cL_law 484 = .ok (.iload_n 3, 1) := by decide +kernel
theorem dL_law_485 : decode cL_law 485 = .ok (.iconst 3, 1) := by decide +kernel
theorem dL_law_486 : decode cL_law 486 = .ok (.iadd, 1) := by decide +kernel
theorem dL_law_487 : decode cL_law 487 = .ok (.iaload, 1) := by decide +kernel
theorem dL_law_488 : decode cL_law 488 = .ok (.invokevirtual 45, 3) := by decide +kernel
theorem dL_law_491 : decode cL_law 491 = .ok (.aload_n 2, 1) := by decide +kernel
theorem dL_law_492 : decode cL_law 492 = .ok (.aload_n 0, 1) := by decide +kernel
theorem dL_law_493 : decode cL_law 493 = .ok (.iload_n 3, 1) := by decide +kernel
theorem dL_law_494 : decode cL_law 494 = .ok (.iconst 1, 1) := by decide +kernel
theorem dL_law_495 : decode cL_law 495 = .ok (.iadd, 1) := by decide +kernel
theorem dL_law_496 : decode cL_law 496 = .ok (.iaload, 1) := by decide +kernel
theorem dL_law_497 : decode cL_law 497 = .ok (.aload_n 0, 1) := by decide +kernel
theorem dL_law_498 : decode cL_law 498 = .ok (.iload_n 3, 1) := by decide +kernel
theorem dL_law_499 : decode cL_law 499 = .ok (.iconst 2, 1) := by decide +kernel
theorem dL_law_500 : decode cL_law 500 = .ok (.iadd, 1) := by decide +kernel
theorem dL_law_501 : decode cL_law 501 = .ok (.iaload, 1) := by decide +kernel
theorem dL_law_502 : decode cL_law 502 = .ok (.aload_n 0, 1) := by decide +kernel
theorem dL_law_503 : decode cL_law 503 = .ok (.iload_n 3, 1) := by decide +kernel
theorem dL_law_504 : decode cL_law 504 = .ok (.iconst 3, 1) := by decide +kernel
theorem dL_law_505 : decode cL_law 505 = .ok (.iadd, 1) := by decide +kernel
theorem dL_law_506 : decode cL_law 506 = .ok (.iaload, 1) := by decide +kernel
theorem dL_law_507 : decode cL_law 507 = .ok (.invokevirtual 48, 3) := by decide +kernel
theorem dL_law_510 : decode cL_law 510 = .ok (.if_icmp .eq 789, 3) := by decide +kernel
theorem dL_law_513 : decode cL_law 513 = .ok (.iconst 0, 1) := by decide +kernel
theorem dL_law_514 : decode cL_law 514 = .ok (.ireturn, 1) := by decide +kernel
theorem dL_law_515 : decode cL_law 515 = .ok (.aload_n 1, 1) := by decide +kernel
theorem dL_law_516 : decode cL_law 516 = .ok (.aload_n 0, 1) := by decide +kernel
theorem dL_law_517 : decode cL_law 517 = .ok (.iload_n 3, 1) := by decide +kernel
theorem dL_law_518 : decode cL_law 518 = .ok (.iconst 1, 1) := by decide +kernel
theorem dL_law_519 : decode cL_law 519 = .ok (.iadd, 1) := by decide +kernel
theorem dL_law_520 : decode cL_law 520 = .ok (.iaload, 1) := by decide +kernel
theorem dL_law_521 : decode cL_law 521 = .ok (.aload_n 0, 1) := by decide +kernel
theorem dL_law_522 : decode cL_law 522 = .ok (.iload_n 3, 1) := by decide +kernel
theorem dL_law_523 : decode cL_law 523 = .ok (.iconst 2, 1) := by decide +kernel
theorem dL_law_524 : decode cL_law 524 = .ok (.iadd, 1) := by decide +kernel
theorem dL_law_525 : decode cL_law 525 = .ok (.iaload, 1) := by decide +kernel
theorem dL_law_526 : decode cL_law 526 = .ok (.aload_n 0, 1) := by decide +kernel
theorem dL_law_527 : decode cL_law 527 = .ok (.iload_n 3, 1) := by decide +kernel
theorem dL_law_528 : decode cL_law 528 = .ok (.iconst 3, 1) := by decide +kernel
theorem dL_law_529 : decode cL_law 529 = .ok (.iadd, 1) := by decide +kernel
theorem dL_law_530 : decode cL_law 530 = .ok (.iaload, 1) := by decide +kernel
theorem dL_law_531 : decode cL_law 531 = .ok (.aload_n 0, 1) := by decide +kernel
theorem dL_law_532 : decode cL_law 532 = .ok (.iload_n 3, 1) := by decide +kernel
theorem dL_law_533 : decode cL_law 533 = .ok (.iconst 4, 1) := by decide +kernel
theorem dL_law_534 : decode cL_law 534 = .ok (.iadd, 1) := by decide +kernel
theorem dL_law_535 : decode cL_law 535 = .ok (.iaload, 1) := by decide +kernel
theorem dL_law_536 : decode cL_law 536 = .ok (.invokevirtual 49, 3) := by decide +kernel
theorem dL_law_539 : decode cL_law 539 = .ok (.aload_n 2, 1) := by decide +kernel
theorem dL_law_540 : decode cL_law 540 = .ok (.aload_n 0, 1) := by decide +kernel
theorem dL_law_541 : decode cL_law 541 = .ok (.iload_n 3, 1) := by decide +kernel
theorem dL_law_542 : decode cL_law 542 = .ok (.iconst 1, 1) := by decide +kernel
theorem dL_law_543 : decode cL_law 543 = .ok (.iadd, 1) := by decide +kernel
theorem dL_law_544 : decode cL_law 544 = .ok (.iaload, 1) := by decide +kernel
theorem dL_law_545 : decode cL_law 545 = .ok (.aload_n 0, 1) := by decide +kernel
theorem dL_law_546 : decode cL_law 546 = .ok (.iload_n 3, 1) := by decide +kernel
theorem dL_law_547 : decode cL_law 547 = .ok (.iconst 2, 1) := by decide +kernel
theorem dL_law_548 : decode cL_law 548 = .ok (.iadd, 1) := by decide +kernel
theorem dL_law_549 : decode cL_law 549 = .ok (.iaload, 1) := by decide +kernel
theorem dL_law_550 : decode cL_law 550 = .ok (.aload_n 0, 1) := by decide +kernel
theorem dL_law_551 : decode cL_law 551 = .ok (.iload_n 3, 1) := by decide +kernel
theorem dL_law_552 : decode cL_law 552 = .ok (.iconst 3, 1) := by decide +kernel
theorem dL_law_553 : decode cL_law 553 = .ok (.iadd, 1) := by decide +kernel
theorem dL_law_554 : decode cL_law 554 = .ok (.iaload, 1) := by decide +kernel
theorem dL_law_555 : decode cL_law 555 = .ok (.aload_n 0, 1) := by decide +kernel
theorem dL_law_556 : decode cL_law 556 = .ok (.iload_n 3, 1) := by decide +kernel
theorem dL_law_557 : decode cL_law 557 = .ok (.iconst 4, 1) := by decide +kernel
theorem dL_law_558 : decode cL_law 558 = .ok (.iadd, 1) := by decide +kernel
theorem dL_law_559 : decode cL_law 559 = .ok (.iaload, 1) := by decide +kernel
theorem dL_law_560 : decode cL_law 560 = .ok (.invokevirtual 52, 3) := by decide +kernel
theorem dL_law_563 : decode cL_law 563 = .ok (.if_icmp .eq 736, 3) := by decide +kernel
theorem dL_law_566 : decode cL_law 566 = .ok (.iconst 0, 1) := by decide +kernel
theorem dL_law_567 : decode cL_law 567 = .ok (.ireturn, 1) := by decide +kernel
theorem dL_law_568 : decode cL_law 568 = .ok (.aload_n 1, 1) := by decide +kernel
theorem dL_law_569 : decode cL_law 569 = .ok (.aload_n 0, 1) := by decide +kernel
theorem dL_law_570 : decode cL_law 570 = .ok (.iload_n 3, 1) := by decide +kernel
theorem dL_law_571 : decode cL_law 571 = .ok (.iconst 1, 1) := by decide +kernel
theorem dL_law_572 : decode cL_law 572 = .ok (.iadd, 1) := by decide +kernel
theorem dL_law_573 : decode cL_law 573 = .ok (.iaload, 1) := by decide +kernel
theorem dL_law_574 : decode cL_law 574 = .ok (.aload_n 0, 1) := by decide +kernel
theorem dL_law_575 : decode cL_law 575 = .ok (.iload_n 3, 1) := by decide +kernel
theorem dL_law_576 : decode cL_law 576 = .ok (.iconst 2, 1) := by decide +kernel
theorem dL_law_577 : decode cL_law 577 = .ok (.iadd, 1) := by decide +kernel
theorem dL_law_578 : decode cL_law 578 = .ok (.iaload, 1) := by decide +kernel
theorem dL_law_579 : decode cL_law 579 = .ok (.aload_n 0, 1) := by decide +kernel
theorem dL_law_580 : decode cL_law 580 = .ok (.iload_n 3, 1) := by decide +kernel
theorem dL_law_581 : decode cL_law 581 = .ok (.iconst 3, 1) := by decide +kernel
theorem dL_law_582 : decode cL_law 582 = .ok (.iadd, 1) := by decide +kernel
theorem dL_law_583 : decode cL_law 583 = .ok (.iaload, 1) := by decide +kernel
theorem dL_law_584 : decode cL_law 584 = .ok (.invokevirtual 53, 3) := by decide +kernel
theorem dL_law_587 : decode cL_law 587 = .ok (.aload_n 2, 1) := by decide +kernel
theorem dL_law_588 : decode cL_law 588 = .ok (.aload_n 0, 1) := by decide +kernel
theorem dL_law_589 : decode cL_law 589 = .ok (.iload_n 3, 1) := by decide +kernel
theorem dL_law_590 : decode cL_law 590 = .ok (.iconst 1, 1) := by decide +kernel
theorem dL_law_591 : decode cL_law 591 = .ok (.iadd, 1) := by decide +kernel
theorem dL_law_592 : decode cL_law 592 = .ok (.iaload, 1) := by decide +kernel
theorem dL_law_593 : decode cL_law 593 = .ok (.aload_n 0, 1) := by decide +kernel
theorem dL_law_594 : decode cL_law 594 = .ok (.iload_n 3, 1) := by decide +kernel
theorem dL_law_595 : decode cL_law 595 = .ok (.iconst 2, 1) := by decide +kernel
theorem dL_law_596 : decode cL_law 596 = .ok (.iadd, 1) := by decide +kernel
theorem dL_law_597 : decode cL_law 597 = .ok (.iaload, 1) := by decide +kernel
theorem dL_law_598 : decode cL_law 598 = .ok (.aload_n 0, 1) := by decide +kernel
theorem dL_law_599 : decode cL_law 599 = .ok (.iload_n 3, 1) := by decide +kernel
theorem dL_law_600 : decode cL_law 600 = .ok (.iconst 3, 1) := by decide +kernel
theorem dL_law_601 : decode cL_law 601 = .ok (.iadd, 1) := by decide +kernel
theorem dL_law_602 : decode cL_law 602 = .ok (.iaload, 1) := by decide +kernel
theorem dL_law_603 : decode cL_law 603 = .ok (.invokevirtual 56, 3) := by decide +kernel
theorem dL_law_606 : decode cL_law 606 = .ok (.if_icmp .eq 693, 3) := by decide +kernel
theorem dL_law_609 : decode cL_law 609 = .ok (.iconst 0, 1) := by decide +kernel
theorem dL_law_610 : decode cL_law 610 = .ok (.ireturn, 1) := by decide +kernel
theorem dL_law_611 : decode cL_law 611 = .ok (.aload_n 1, 1) := by decide +kernel
theorem dL_law_612 : decode cL_law 612 = .ok (.aload_n 0, 1) := by decide +kernel
theorem dL_law_613 : decode cL_law 613 = .ok (.iload_n 3, 1) := by decide +kernel
theorem dL_law_614 : decode cL_law 614 = .ok (.iconst 1, 1) := by decide +kernel
theorem dL_law_615 : decode cL_law 615 = .ok (.iadd, 1) := by decide +kernel
theorem dL_law_616 : decode cL_law 616 = .ok (.iaload, 1) := by decide +kernel
theorem dL_law_617 : decode cL_law 617 = .ok (.invokevirtual 57, 3) := by decide +kernel
theorem dL_law_620 : decode cL_law 620 = .ok (.aload_n 2, 1) := by decide +kernel
theorem dL_law_621 : decode cL_law 621 = .ok (.aload_n 0, 1) := by decide +kernel
theorem dL_law_622 : decode cL_law 622 = .ok (.iload_n 3, 1) := by decide +kernel
theorem dL_law_623 : decode cL_law 623 = .ok (.iconst 1, 1) := by decide +kernel
theorem dL_law_624 : decode cL_law 624 = .ok (.iadd, 1) := by decide +kernel
theorem dL_law_625 : decode cL_law 625 = .ok (.iaload, 1) := by decide +kernel
theorem dL_law_626 : decode cL_law 626 = .ok (.invokevirtual 61, 3) := by decide +kernel
theorem dL_law_629 : decode cL_law 629 = .ok (.if_icmp .eq 670, 3) := by decide +kernel
theorem dL_law_632 : decode cL_law 632 = .ok (.iconst 0, 1) := by decide +kernel
theorem dL_law_633 : decode cL_law 633 = .ok (.ireturn, 1) := by decide +kernel
theorem dL_law_634 : decode cL_law 634 = .ok (.aload_n 1, 1) := by decide +kernel
theorem dL_law_635 : decode cL_law 635 = .ok (.aload_n 0, 1) := by decide +kernel
theorem dL_law_636 : decode cL_law 636 = .ok (.iload_n 3, 1) := by decide +kernel
theorem dL_law_637 : decode cL_law 637 = .ok (.iconst 1, 1) := by decide +kernel
theorem dL_law_638 : decode cL_law 638 = .ok (.iadd, 1) := by decide +kernel
theorem dL_law_639 : decode cL_law 639 = .ok (.iaload, 1) := by decide +kernel
theorem dL_law_640 : decode cL_law 640 = .ok (.invokevirtual 62, 3) := by decide +kernel
theorem dL_law_643 : decode cL_law 643 = .ok (.aload_n 2, 1) := by decide +kernel
theorem dL_law_644 : decode cL_law 644 = .ok (.aload_n 0, 1) := by decide +kernel
theorem dL_law_645 : decode cL_law 645 = .ok (.iload_n 3, 1) := by decide +kernel
theorem dL_law_646 : decode cL_law 646 = .ok (.iconst 1, 1) := by decide +kernel
theorem dL_law_647 : decode cL_law 647 = .ok (.iadd, 1) := by decide +kernel
theorem dL_law_648 : decode cL_law 648 = .ok (.iaload, 1) := by decide +kernel
theorem dL_law_649 : decode cL_law 649 = .ok (.invokevirtual 65, 3) := by decide +kernel
theorem dL_law_652 : decode cL_law 652 = .ok (.if_icmp .eq 647, 3) := by decide +kernel
theorem dL_law_655 : decode cL_law 655 = .ok (.iconst 0, 1) := by decide +kernel
theorem dL_law_656 : decode cL_law 656 = .ok (.ireturn, 1) := by decide +kernel
theorem dL_law_657 : decode cL_law 657 = .ok (.aload_n 1, 1) := by decide +kernel
theorem dL_law_658 : decode cL_law 658 = .ok (.aload_n 0, 1) := by decide +kernel
theorem dL_law_659 : decode cL_law 659 = .ok (.iload_n 3, 1) := by decide +kernel
theorem dL_law_660 : decode cL_law 660 = .ok (.iconst 1, 1) := by decide +kernel
theorem dL_law_661 : decode cL_law 661 = .ok (.iadd, 1) := by decide +kernel
theorem dL_law_662 : decode cL_law 662 = .ok (.iaload, 1) := by decide +kernel
theorem dL_law_663 : decode cL_law 663 = .ok (.invokevirtual 66, 3) := by decide +kernel
theorem dL_law_666 : decode cL_law 666 = .ok (.aload_n 2, 1) := by decide +kernel
theorem dL_law_667 : decode cL_law 667 = .ok (.aload_n 0, 1) := by decide +kernel
theorem dL_law_668 : decode cL_law 668 = .ok (.iload_n 3, 1) := by decide +kernel
theorem dL_law_669 : decode cL_law 669 = .ok (.iconst 1, 1) := by decide +kernel
theorem dL_law_670 : decode cL_law 670 = .ok (.iadd, 1) := by decide +kernel
theorem dL_law_671 : decode cL_law 671 = .ok (.iaload, 1) := by decide +kernel
theorem dL_law_672 : decode cL_law 672 = .ok (.invokevirtual 69, 3) := by decide +kernel
theorem dL_law_675 : decode cL_law 675 = .ok (.if_icmp .eq 624, 3) := by decide +kernel
theorem dL_law_678 : decode cL_law 678 = .ok (.iconst 0, 1) := by decide +kernel
theorem dL_law_679 : decode cL_law 679 = .ok (.ireturn, 1) := by decide +kernel
theorem dL_law_680 : decode cL_law 680 = .ok (.aload_n 1, 1) := by decide +kernel
theorem dL_law_681 : decode cL_law 681 = .ok (.aload_n 0, 1) := by decide +kernel
theorem dL_law_682 : decode cL_law 682 = .ok (.iload_n 3, 1) := by decide +kernel
theorem dL_law_683 : decode cL_law 683 = .ok (.iconst 1, 1) := by decide +kernel
theorem dL_law_684 : decode cL_law 684 = .ok (.iadd, 1) := by decide +kernel
theorem dL_law_685 : decode cL_law 685 = .ok (.iaload, 1) := by decide +kernel
theorem dL_law_686 : decode cL_law 686 = .ok (.aload_n 0, 1) := by decide +kernel
theorem dL_law_687 : decode cL_law 687 = .ok (.iload_n 3, 1) := by decide +kernel
theorem dL_law_688 : decode cL_law 688 = .ok (.iconst 2, 1) := by decide +kernel
theorem dL_law_689 : decode cL_law 689 = .ok (.iadd, 1) := by decide +kernel
theorem dL_law_690 : decode cL_law 690 = .ok (.iaload, 1) := by decide +kernel
theorem dL_law_691 : decode cL_law 691 = .ok (.invokevirtual 70, 3) := by decide +kernel
theorem dL_law_694 : decode cL_law 694 = .ok (.aload_n 2, 1) := by decide +kernel
theorem dL_law_695 : decode cL_law 695 = .ok (.aload_n 0, 1) := by decide +kernel
theorem dL_law_696 : decode cL_law 696 = .ok (.iload_n 3, 1) := by decide +kernel
theorem dL_law_697 : decode cL_law 697 = .ok (.iconst 1, 1) := by decide +kernel
theorem dL_law_698 : decode cL_law 698 = .ok (.iadd, 1) := by decide +kernel
theorem dL_law_699 : decode cL_law 699 = .ok (.iaload, 1) := by decide +kernel
theorem dL_law_700 : decode cL_law 700 = .ok (.aload_n 0, 1) := by decide +kernel
theorem dL_law_701 : decode cL_law 701 = .ok (.iload_n 3, 1) := by decide +kernel
theorem dL_law_702 : decode cL_law 702 = .ok (.iconst 2, 1) := by decide +kernel
theorem dL_law_703 : decode cL_law 703 = .ok (.iadd, 1) := by decide +kernel
theorem dL_law_704 : decode cL_law 704 = .ok (.iaload, 1) := by decide +kernel
theorem dL_law_705 : decode cL_law 705 = .ok (.invokevirtual 73, 3) := by decide +kernel
theorem dL_law_708 : decode cL_law 708 = .ok (.if_icmp .eq 591, 3) := by decide +kernel
theorem dL_law_711 : decode cL_law 711 = .ok (.iconst 0, 1) := by decide +kernel
theorem dL_law_712 : decode cL_law 712 = .ok (.ireturn, 1) := by decide +kernel
theorem dL_law_713 : decode cL_law 713 = .ok (.aload_n 1, 1) := by decide +kernel
theorem dL_law_714 : decode cL_law 714 = .ok (.aload_n 0, 1) := by decide +kernel
theorem dL_law_715 : decode cL_law 715 = .ok (.iload_n 3, 1) := by decide +kernel
theorem dL_law_716 : decode cL_law 716 = .ok (.iconst 1, 1) := by decide +kernel
theorem dL_law_717 : decode cL_law 717 = .ok (.iadd, 1) := by decide +kernel
theorem dL_law_718 : decode cL_law 718 = .ok (.iaload, 1) := by decide +kernel
theorem dL_law_719 : decode cL_law 719 = .ok (.aload_n 0, 1) := by decide +kernel
theorem dL_law_720 : decode cL_law 720 = .ok (.iload_n 3, 1) := by decide +kernel
theorem dL_law_721 : decode cL_law 721 = .ok (.iconst 2, 1) := by decide +kernel
theorem dL_law_722 : decode cL_law 722 = .ok (.iadd, 1) := by decide +kernel
theorem dL_law_723 : decode cL_law 723 = .ok (.iaload, 1) := by decide +kernel
theorem dL_law_724 : decode cL_law 724 = .ok (.invokevirtual 74, 3) := by decide +kernel
theorem dL_law_727 : decode cL_law 727 = .ok (.aload_n 2, 1) := by decide +kernel
theorem dL_law_728 : decode cL_law 728 = .ok (.aload_n 0, 1) := by decide +kernel
theorem dL_law_729 : decode cL_law 729 = .ok (.iload_n 3, 1) := by decide +kernel
theorem dL_law_730 : decode cL_law 730 = .ok (.iconst 1, 1) := by decide +kernel
theorem dL_law_731 : decode cL_law 731 = .ok (.iadd, 1) := by decide +kernel
theorem dL_law_732 : decode cL_law 732 = .ok (.iaload, 1) := by decide +kernel
theorem dL_law_733 : decode cL_law 733 = .ok (.aload_n 0, 1) := by decide +kernel
theorem dL_law_734 : decode cL_law 734 = .ok (.iload_n 3, 1) := by decide +kernel
theorem dL_law_735 : decode cL_law 735 = .ok (.iconst 2, 1) := by decide +kernel
theorem dL_law_736 : decode cL_law 736 = .ok (.iadd, 1) := by decide +kernel
theorem dL_law_737 : decode cL_law 737 = .ok (.iaload, 1) := by decide +kernel
theorem dL_law_738 : decode cL_law 738 = .ok (.invokevirtual 78, 3) := by decide +kernel
theorem dL_law_741 : decode cL_law 741 = .ok (.lcmp, 1) := by decide +kernel
theorem dL_law_742 : decode cL_law 742 = .ok (.ifCond .eq 557, 3) := by decide +kernel
theorem dL_law_745 : decode cL_law 745 = .ok (.iconst 0, 1) := by decide +kernel
theorem dL_law_746 : decode cL_law 746 = .ok (.ireturn, 1) := by decide +kernel
theorem dL_law_747 : decode cL_law 747 = .ok (.aload_n 1, 1) := by decide +kernel
theorem dL_law_748 : decode cL_law 748 = .ok (.aload_n 0, 1) := by decide +kernel
theorem dL_law_749 : decode cL_law 749 = .ok (.iload_n 3, 1) := by decide +kernel
theorem dL_law_750 : decode cL_law 750 = .ok (.iconst 1, 1) := by decide +kernel
theorem dL_law_751 : decode cL_law 751 = .ok (.iadd, 1) := by decide +kernel
theorem dL_law_752 : decode cL_law 752 = .ok (.iaload, 1) := by decide +kernel
theorem dL_law_753 : decode cL_law 753 = .ok (.aload_n 0, 1) := by decide +kernel
theorem dL_law_754 : decode cL_law 754 = .ok (.iload_n 3, 1) := by decide +kernel
theorem dL_law_755 : decode cL_law 755 = .ok (.iconst 2, 1) := by decide +kernel
theorem dL_law_756 : decode cL_law 756 = .ok (.iadd, 1) := by decide +kernel
theorem dL_law_757 : decode cL_law 757 = .ok (.iaload, 1) := by decide +kernel
theorem dL_law_758 : decode cL_law 758 = .ok (.aload_n 0, 1) := by decide +kernel
theorem dL_law_759 : decode cL_law 759 = .ok (.iload_n 3, 1) := by decide +kernel
theorem dL_law_760 : decode cL_law 760 = .ok (.iconst 3, 1) := by decide +kernel
theorem dL_law_761 : decode cL_law 761 = .ok (.iadd, 1) := by decide +kernel
theorem dL_law_762 : decode cL_law 762 = .ok (.iaload, 1) := by decide +kernel
theorem dL_law_763 : decode cL_law 763 = .ok (.invokevirtual 79, 3) := by decide +kernel
theorem dL_law_766 : decode cL_law 766 = .ok (.aload_n 2, 1) := by decide +kernel
theorem dL_law_767 : decode cL_law 767 = .ok (.aload_n 0, 1) := by decide +kernel
theorem dL_law_768 : decode cL_law 768 = .ok (.iload_n 3, 1) := by decide +kernel
theorem dL_law_769 : decode cL_law 769 = .ok (.iconst 1, 1) := by decide +kernel
theorem dL_law_770 : decode cL_law 770 = .ok (.iadd, 1) := by decide +kernel
theorem dL_law_771 : decode cL_law 771 = .ok (.iaload, 1) := by decide +kernel
theorem dL_law_772 : decode cL_law 772 = .ok (.aload_n 0, 1) := by decide +kernel
theorem dL_law_773 : decode cL_law 773 = .ok (.iload_n 3, 1) := by decide +kernel
theorem dL_law_774 : decode cL_law 774 = .ok (.iconst 2, 1) := by decide +kernel
theorem dL_law_775 : decode cL_law 775 = .ok (.iadd, 1) := by decide +kernel
theorem dL_law_776 : decode cL_law 776 = .ok (.iaload, 1) := by decide +kernel
theorem dL_law_777 : decode cL_law 777 = .ok (.aload_n 0, 1) := by decide +kernel
theorem dL_law_778 : decode cL_law 778 = .ok (.iload_n 3, 1) := by decide +kernel
theorem dL_law_779 : decode cL_law 779 = .ok (.iconst 3, 1) := by decide +kernel
theorem dL_law_780 : decode cL_law 780 = .ok (.iadd, 1) := by decide +kernel
theorem dL_law_781 : decode cL_law 781 = .ok (.iaload, 1) := by decide +kernel
theorem dL_law_782 : decode cL_law 782 = .ok (.invokevirtual 82, 3) := by decide +kernel
theorem dL_law_785 : decode cL_law 785 = .ok (.if_icmp .eq 514, 3) := by decide +kernel
theorem dL_law_788 : decode cL_law 788 = .ok (.iconst 0, 1) := by decide +kernel
theorem dL_law_789 : decode cL_law 789 = .ok (.ireturn, 1) := by decide +kernel
theorem dL_law_790 : decode cL_law 790 = .ok (.aload_n 1, 1) := by decide +kernel
theorem dL_law_791 : decode cL_law 791 = .ok (.aload_n 0, 1) := by decide +kernel
theorem dL_law_792 : decode cL_law 792 = .ok (.iload_n 3, 1) := by decide +kernel
theorem dL_law_793 : decode cL_law 793 = .ok (.iconst 1, 1) := by decide +kernel
theorem dL_law_794 : decode cL_law 794 = .ok (.iadd, 1) := by decide +kernel
theorem dL_law_795 : decode cL_law 795 = .ok (.iaload, 1) := by decide +kernel
theorem dL_law_796 : decode cL_law 796 = .ok (.aload_n 0, 1) := by decide +kernel
theorem dL_law_797 : decode cL_law 797 = .ok (.iload_n 3, 1) := by decide +kernel
theorem dL_law_798 : decode cL_law 798 = .ok (.iconst 2, 1) := by decide +kernel
theorem dL_law_799 : decode cL_law 799 = .ok (.iadd, 1) := by decide +kernel
theorem dL_law_800 : decode cL_law 800 = .ok (.iaload, 1) := by decide +kernel
theorem dL_law_801 : decode cL_law 801 = .ok (.aload_n 0, 1) := by decide +kernel
theorem dL_law_802 : decode cL_law 802 = .ok (.iload_n 3, 1) := by decide +kernel
theorem dL_law_803 : decode cL_law 803 = .ok (.iconst 3, 1) := by decide +kernel
theorem dL_law_804 : decode cL_law 804 = .ok (.iadd, 1) := by decide +kernel
theorem dL_law_805 : decode cL_law 805 = .ok (.iaload, 1) := by decide +kernel
theorem dL_law_806 : decode cL_law 806 = .ok (.aload_n 0, 1) := by decide +kernel
theorem dL_law_807 : decode cL_law 807 = .ok (.iload_n 3, 1) := by decide +kernel
theorem dL_law_808 : decode cL_law 808 = .ok (.iconst 4, 1) := by decide +kernel
theorem dL_law_809 : decode cL_law 809 = .ok (.iadd, 1) := by decide +kernel
theorem dL_law_810 : decode cL_law 810 = .ok (.iaload, 1) := by decide +kernel
theorem dL_law_811 : decode cL_law 811 = .ok (.i2l, 1) := by decide +kernel
theorem dL_law_812 : decode cL_law 812 = .ok (.bipush 32, 2) := by decide +kernel
theorem dL_law_814 : decode cL_law 814 = .ok (.lshl, 1) := by decide +kernel
theorem dL_law_815 : decode cL_law 815 = .ok (.aload_n 0, 1) := by decide +kernel
theorem dL_law_816 : decode cL_law 816 = .ok (.iload_n 3, 1) := by decide +kernel
theorem dL_law_817 : decode cL_law 817 = .ok (.iconst 5, 1) := by decide +kernel
theorem dL_law_818 : decode cL_law 818 = .ok (.iadd, 1) := by decide +kernel
theorem dL_law_819 : decode cL_law 819 = .ok (.iaload, 1) := by decide +kernel
theorem dL_law_820 : decode cL_law 820 = .ok (.i2l, 1) := by decide +kernel
theorem dL_law_821 : decode cL_law 821 = .ok (.ldc2_w 83, 3) := by decide +kernel
theorem dL_law_824 : decode cL_law 824 = .ok (.land, 1) := by decide +kernel
theorem dL_law_825 : decode cL_law 825 = .ok (.lor, 1) := by decide +kernel
theorem dL_law_826 : decode cL_law 826 = .ok (.aload_n 0, 1) := by decide +kernel
theorem dL_law_827 : decode cL_law 827 = .ok (.iload_n 3, 1) := by decide +kernel
theorem dL_law_828 : decode cL_law 828 = .ok (.bipush 6, 2) := by decide +kernel
theorem dL_law_830 : decode cL_law 830 = .ok (.iadd, 1) := by decide +kernel
theorem dL_law_831 : decode cL_law 831 = .ok (.iaload, 1) := by decide +kernel
theorem dL_law_832 : decode cL_law 832 = .ok (.invokevirtual 85, 3) := by decide +kernel
theorem dL_law_835 : decode cL_law 835 = .ok (.aload_n 2, 1) := by decide +kernel
theorem dL_law_836 : decode cL_law 836 = .ok (.aload_n 0, 1) := by decide +kernel
theorem dL_law_837 : decode cL_law 837 = .ok (.iload_n 3, 1) := by decide +kernel
theorem dL_law_838 : decode cL_law 838 = .ok (.iconst 1, 1) := by decide +kernel
theorem dL_law_839 : decode cL_law 839 = .ok (.iadd, 1) := by decide +kernel
theorem dL_law_840 : decode cL_law 840 = .ok (.iaload, 1) := by decide +kernel
theorem dL_law_841 : decode cL_law 841 = .ok (.aload_n 0, 1) := by decide +kernel
theorem dL_law_842 : decode cL_law 842 = .ok (.iload_n 3, 1) := by decide +kernel
theorem dL_law_843 : decode cL_law 843 = .ok (.iconst 2, 1) := by decide +kernel
theorem dL_law_844 : decode cL_law 844 = .ok (.iadd, 1) := by decide +kernel
theorem dL_law_845 : decode cL_law 845 = .ok (.iaload, 1) := by decide +kernel
theorem dL_law_846 : decode cL_law 846 = .ok (.aload_n 0, 1) := by decide +kernel
theorem dL_law_847 : decode cL_law 847 = .ok (.iload_n 3, 1) := by decide +kernel
theorem dL_law_848 : decode cL_law 848 = .ok (.iconst 3, 1) := by decide +kernel
theorem dL_law_849 : decode cL_law 849 = .ok (.iadd, 1) := by decide +kernel
theorem dL_law_850 : decode cL_law 850 = .ok (.iaload, 1) := by decide +kernel
theorem dL_law_851 : decode cL_law 851 = .ok (.aload_n 0, 1) := by decide +kernel
theorem dL_law_852 : decode cL_law 852 = .ok (.iload_n 3, 1) := by decide +kernel
theorem dL_law_853 : decode cL_law 853 = .ok (.iconst 4, 1) := by decide +kernel
theorem dL_law_854 : decode cL_law 854 = .ok (.iadd, 1) := by decide +kernel
theorem dL_law_855 : decode cL_law 855 = .ok (.iaload, 1) := by decide +kernel
theorem dL_law_856 : decode cL_law 856 = .ok (.i2l, 1) := by decide +kernel
theorem dL_law_857 : decode cL_law 857 = .ok (.bipush 32, 2) := by decide +kernel
theorem dL_law_859 : decode cL_law 859 = .ok (.lshl, 1) := by decide +kernel
theorem dL_law_860 : decode cL_law 860 = .ok (.aload_n 0, 1) := by decide +kernel
theorem dL_law_861 : decode cL_law 861 = .ok (.iload_n 3, 1) := by decide +kernel
theorem dL_law_862 : decode cL_law 862 = .ok (.iconst 5, 1) := by decide +kernel
theorem dL_law_863 : decode cL_law 863 = .ok (.iadd, 1) := by decide +kernel
theorem dL_law_864 : decode cL_law 864 = .ok (.iaload, 1) := by decide +kernel
theorem dL_law_865 : decode cL_law 865 = .ok (.i2l, 1) := by decide +kernel
theorem dL_law_866 : decode cL_law 866 = .ok (.ldc2_w 83, 3) := by decide +kernel
theorem dL_law_869 : decode cL_law 869 = .ok (.land, 1) := by decide +kernel
theorem dL_law_870 : decode cL_law 870 = .ok (.lor, 1) := by decide +kernel
theorem dL_law_871 : decode cL_law 871 = .ok (.aload_n 0, 1) := by decide +kernel
theorem dL_law_872 : decode cL_law 872 = .ok (.iload_n 3, 1) := by decide +kernel
theorem dL_law_873 : decode cL_law 873 = .ok (.bipush 6, 2) := by decide +kernel
theorem dL_law_875 : decode cL_law 875 = .ok (.iadd, 1) := by decide +kernel
theorem dL_law_876 : decode cL_law 876 = .ok (.iaload, 1) := by decide +kernel
theorem dL_law_877 : decode cL_law 877 = .ok (.invokevirtual 89, 3) := by decide +kernel
theorem dL_law_880 : decode cL_law 880 = .ok (.if_icmp .eq 419, 3) := by decide +kernel
theorem dL_law_883 : decode cL_law 883 = .ok (.iconst 0, 1) := by decide +kernel
theorem dL_law_884 : decode cL_law 884 = .ok (.ireturn, 1) := by decide +kernel
theorem dL_law_885 : decode cL_law 885 = .ok (.aload_n 1, 1) := by decide +kernel
theorem dL_law_886 : decode cL_law 886 = .ok (.aload_n 0, 1) := by decide +kernel
theorem dL_law_887 : decode cL_law 887 = .ok (.iload_n 3, 1) := by decide +kernel
theorem dL_law_888 : decode cL_law 888 = .ok (.iconst 1, 1) := by decide +kernel
theorem dL_law_889 : decode cL_law 889 = .ok (.iadd, 1) := by decide +kernel
theorem dL_law_890 : decode cL_law 890 = .ok (.iaload, 1) := by decide +kernel
theorem dL_law_891 : decode cL_law 891 = .ok (.aload_n 0, 1) := by decide +kernel
theorem dL_law_892 : decode cL_law 892 = .ok (.iload_n 3, 1) := by decide +kernel
theorem dL_law_893 : decode cL_law 893 = .ok (.iconst 2, 1) := by decide +kernel
theorem dL_law_894 : decode cL_law 894 = .ok (.iadd, 1) := by decide +kernel
theorem dL_law_895 : decode cL_law 895 = .ok (.iaload, 1) := by decide +kernel
theorem dL_law_896 : decode cL_law 896 = .ok (.invokevirtual 90, 3) := by decide +kernel
theorem dL_law_899 : decode cL_law 899 = .ok (.aload_n 2, 1) := by decide +kernel
theorem dL_law_900 : decode cL_law 900 = .ok (.aload_n 0, 1) := by decide +kernel
theorem dL_law_901 : decode cL_law 901 = .ok (.iload_n 3, 1) := by decide +kernel
theorem dL_law_902 : decode cL_law 902 = .ok (.iconst 1, 1) := by decide +kernel
theorem dL_law_903 : decode cL_law 903 = .ok (.iadd, 1) := by decide +kernel
theorem dL_law_904 : decode cL_law 904 = .ok (.iaload, 1) := by decide +kernel
theorem dL_law_905 : decode cL_law 905 = .ok (.aload_n 0, 1) := by decide +kernel
theorem dL_law_906 : decode cL_law 906 = .ok (.iload_n 3, 1) := by decide +kernel
theorem dL_law_907 : decode cL_law 907 = .ok (.iconst 2, 1) := by decide +kernel
theorem dL_law_908 : decode cL_law 908 = .ok (.iadd, 1) := by decide +kernel
theorem dL_law_909 : decode cL_law 909 = .ok (.iaload, 1) := by decide +kernel
theorem dL_law_910 : decode cL_law 910 = .ok (.invokevirtual 93, 3) := by decide +kernel
theorem dL_law_913 : decode cL_law 913 = .ok (.if_icmp .eq 386, 3) := by decide +kernel
theorem dL_law_916 : decode cL_law 916 = .ok (.iconst 0, 1) := by decide +kernel
theorem dL_law_917 : decode cL_law 917 = .ok (.ireturn, 1) := by decide +kernel
theorem dL_law_918 : decode cL_law 918 = .ok (.aload_n 1, 1) := by decide +kernel
theorem dL_law_919 : decode cL_law 919 = .ok (.aload_n 0, 1) := by decide +kernel
theorem dL_law_920 : decode cL_law 920 = .ok (.iload_n 3, 1) := by decide +kernel
theorem dL_law_921 : decode cL_law 921 = .ok (.iconst 1, 1) := by decide +kernel
theorem dL_law_922 : decode cL_law 922 = .ok (.iadd, 1) := by decide +kernel
theorem dL_law_923 : decode cL_law 923 = .ok (.iaload, 1) := by decide +kernel
theorem dL_law_924 : decode cL_law 924 = .ok (.aload_n 0, 1) := by decide +kernel
theorem dL_law_925 : decode cL_law 925 = .ok (.iload_n 3, 1) := by decide +kernel
theorem dL_law_926 : decode cL_law 926 = .ok (.iconst 2, 1) := by decide +kernel
theorem dL_law_927 : decode cL_law 927 = .ok (.iadd, 1) := by decide +kernel
theorem dL_law_928 : decode cL_law 928 = .ok (.iaload, 1) := by decide +kernel
theorem dL_law_929 : decode cL_law 929 = .ok (.aload_n 0, 1) := by decide +kernel
theorem dL_law_930 : decode cL_law 930 = .ok (.iload_n 3, 1) := by decide +kernel
theorem dL_law_931 : decode cL_law 931 = .ok (.iconst 3, 1) := by decide +kernel
theorem dL_law_932 : decode cL_law 932 = .ok (.iadd, 1) := by decide +kernel
theorem dL_law_933 : decode cL_law 933 = .ok (.iaload, 1) := by decide +kernel
theorem dL_law_934 : decode cL_law 934 = .ok (.invokevirtual 94, 3) := by decide +kernel
theorem dL_law_937 : decode cL_law 937 = .ok (.aload_n 2, 1) := by decide +kernel
theorem dL_law_938 : decode cL_law 938 = .ok (.aload_n 0, 1) := by decide +kernel
theorem dL_law_939 : decode cL_law 939 = .ok (.iload_n 3, 1) := by decide +kernel
theorem dL_law_940 : decode cL_law 940 = .ok (.iconst 1, 1) := by decide +kernel
theorem dL_law_941 : decode cL_law 941 = .ok (.iadd, 1) := by decide +kernel
theorem dL_law_942 : decode cL_law 942 = .ok (.iaload, 1) := by decide +kernel
theorem dL_law_943 : decode cL_law 943 = .ok (.aload_n 0, 1) := by decide +kernel
theorem dL_law_944 : decode cL_law 944 = .ok (.iload_n 3, 1) := by decide +kernel
theorem dL_law_945 : decode cL_law 945 = .ok (.iconst 2, 1) := by decide +kernel
theorem dL_law_946 : decode cL_law 946 = .ok (.iadd, 1) := by decide +kernel
theorem dL_law_947 : decode cL_law 947 = .ok (.iaload, 1) := by decide +kernel
theorem dL_law_948 : decode cL_law 948 = .ok (.aload_n 0, 1) := by decide +kernel
theorem dL_law_949 : decode cL_law 949 = .ok (.iload_n 3, 1) := by decide +kernel
theorem dL_law_950 : decode cL_law 950 = .ok (.iconst 3, 1) := by decide +kernel
theorem dL_law_951 : decode cL_law 951 = .ok (.iadd, 1) := by decide +kernel
theorem dL_law_952 : decode cL_law 952 = .ok (.iaload, 1) := by decide +kernel
theorem dL_law_953 : decode cL_law 953 = .ok (.invokevirtual 97, 3) := by decide +kernel
theorem dL_law_956 : decode cL_law 956 = .ok (.if_icmp .eq 343, 3) := by decide +kernel
theorem dL_law_959 : decode cL_law 959 = .ok (.iconst 0, 1) := by decide +kernel
theorem dL_law_960 : decode cL_law 960 = .ok (.ireturn, 1) := by decide +kernel
theorem dL_law_961 : decode cL_law 961 = .ok (.aload_n 1, 1) := by decide +kernel
theorem dL_law_962 : decode cL_law 962 = .ok (.aload_n 0, 1) := by decide +kernel
theorem dL_law_963 : decode cL_law 963 = .ok (.iload_n 3, 1) := by decide +kernel
theorem dL_law_964 : decode cL_law 964 = .ok (.iconst 1, 1) := by decide +kernel
theorem dL_law_965 : decode cL_law 965 = .ok (.iadd, 1) := by decide +kernel
theorem dL_law_966 : decode cL_law 966 = .ok (.iaload, 1) := by decide +kernel
theorem dL_law_967 : decode cL_law 967 = .ok (.aload_n 0, 1) := by decide +kernel
theorem dL_law_968 : decode cL_law 968 = .ok (.iload_n 3, 1) := by decide +kernel
theorem dL_law_969 : decode cL_law 969 = .ok (.iconst 2, 1) := by decide +kernel
theorem dL_law_970 : decode cL_law 970 = .ok (.iadd, 1) := by decide +kernel
theorem dL_law_971 : decode cL_law 971 = .ok (.iaload, 1) := by decide +kernel
theorem dL_law_972 : decode cL_law 972 = .ok (.aload_n 0, 1) := by decide +kernel
theorem dL_law_973 : decode cL_law 973 = .ok (.iload_n 3, 1) := by decide +kernel
theorem dL_law_974 : decode cL_law 974 = .ok (.iconst 3, 1) := by decide +kernel
theorem dL_law_975 : decode cL_law 975 = .ok (.iadd, 1) := by decide +kernel
theorem dL_law_976 : decode cL_law 976 = .ok (.iaload, 1) := by decide +kernel
theorem dL_law_977 : decode cL_law 977 = .ok (.aload_n 0, 1) := by decide +kernel
theorem dL_law_978 : decode cL_law 978 = .ok (.iload_n 3, 1) := by decide +kernel
theorem dL_law_979 : decode cL_law 979 = .ok (.iconst 4, 1) := by decide +kernel
theorem dL_law_980 : decode cL_law 980 = .ok (.iadd, 1) := by decide +kernel
theorem dL_law_981 : decode cL_law 981 = .ok (.iaload, 1) := by decide +kernel
theorem dL_law_982 : decode cL_law 982 = .ok (.invokevirtual 98, 3) := by decide +kernel
theorem dL_law_985 : decode cL_law 985 = .ok (.aload_n 2, 1) := by decide +kernel
theorem dL_law_986 : decode cL_law 986 = .ok (.aload_n 0, 1) := by decide +kernel
theorem dL_law_987 : decode cL_law 987 = .ok (.iload_n 3, 1) := by decide +kernel
theorem dL_law_988 : decode cL_law 988 = .ok (.iconst 1, 1) := by decide +kernel
theorem dL_law_989 : decode cL_law 989 = .ok (.iadd, 1) := by decide +kernel
theorem dL_law_990 : decode cL_law 990 = .ok (.iaload, 1) := by decide +kernel
theorem dL_law_991 : decode cL_law 991 = .ok (.aload_n 0, 1) := by decide +kernel
theorem dL_law_992 : decode cL_law 992 = .ok (.iload_n 3, 1) := by decide +kernel
theorem dL_law_993 : decode cL_law 993 = .ok (.iconst 2, 1) := by decide +kernel
theorem dL_law_994 : decode cL_law 994 = .ok (.iadd, 1) := by decide +kernel
theorem dL_law_995 : decode cL_law 995 = .ok (.iaload, 1) := by decide +kernel
theorem dL_law_996 : decode cL_law 996 = .ok (.aload_n 0, 1) := by decide +kernel
theorem dL_law_997 : decode cL_law 997 = .ok (.iload_n 3, 1) := by decide +kernel
theorem dL_law_998 : decode cL_law 998 = .ok (.iconst 3, 1) := by decide +kernel
theorem dL_law_999 : decode cL_law 999 = .ok (.iadd, 1) := by decide +kernel
theorem dL_law_1000 : decode cL_law 1000 = .ok (.iaload, 1) := by decide +kernel
theorem dL_law_1001 : decode cL_law 1001 = .ok (.aload_n 0, 1) := by decide +kernel
theorem dL_law_1002 : decode cL_law 1002 = .ok (.iload_n 3, 1) := by decide +kernel
theorem dL_law_1003 : decode cL_law 1003 = .ok (.iconst 4, 1) := by decide +kernel
theorem dL_law_1004 : decode cL_law 1004 = .ok (.iadd, 1) := by decide +kernel
theorem dL_law_1005 : decode cL_law 1005 = .ok (.iaload, 1) := by decide +kernel
theorem dL_law_1006 : decode cL_law 1006 = .ok (.invokevirtual 101, 3) := by decide +kernel
theorem dL_law_1009 : decode cL_law 1009 = .ok (.if_icmp .eq 290, 3) := by decide +kernel
theorem dL_law_1012 : decode cL_law 1012 = .ok (.iconst 0, 1) := by decide +kernel
theorem dL_law_1013 : decode cL_law 1013 = .ok (.ireturn, 1) := by decide +kernel
theorem dL_law_1014 : decode cL_law 1014 = .ok (.aload_n 1, 1) := by decide +kernel
theorem dL_law_1015 : decode cL_law 1015 = .ok (.aload_n 0, 1) := by decide +kernel
theorem dL_law_1016 : decode cL_law 1016 = .ok (.iload_n 3, 1) := by decide +kernel
theorem dL_law_1017 : decode cL_law 1017 = .ok (.iconst 1, 1) := by decide +kernel
theorem dL_law_1018 : decode cL_law 1018 = .ok (.iadd, 1) := by decide +kernel
theorem dL_law_1019 : decode cL_law 1019 = .ok (.iaload, 1) := by decide +kernel
theorem dL_law_1020 : decode cL_law 1020 = .ok (.aload_n 0, 1) := by decide +kernel
theorem dL_law_1021 : decode cL_law 1021 = .ok (.iload_n 3, 1) := by decide +kernel
theorem dL_law_1022 : decode cL_law 1022 = .ok (.iconst 2, 1) := by decide +kernel
theorem dL_law_1023 : decode cL_law 1023 = .ok (.iadd, 1) := by decide +kernel
theorem dL_law_1024 : decode cL_law 1024 = .ok (.iaload, 1) := by decide +kernel
theorem dL_law_1025 : decode cL_law 1025 = .ok (.aload_n 0, 1) := by decide +kernel
theorem dL_law_1026 : decode cL_law 1026 = .ok (.iload_n 3, 1) := by decide +kernel
theorem dL_law_1027 : decode cL_law 1027 = .ok (.iconst 3, 1) := by decide +kernel
theorem dL_law_1028 : decode cL_law 1028 = .ok (.iadd, 1) := by decide +kernel
theorem dL_law_1029 : decode cL_law 1029 = .ok (.iaload, 1) := by decide +kernel
theorem dL_law_1030 : decode cL_law 1030 = .ok (.aload_n 0, 1) := by decide +kernel
theorem dL_law_1031 : decode cL_law 1031 = .ok (.iload_n 3, 1) := by decide +kernel
theorem dL_law_1032 : decode cL_law 1032 = .ok (.iconst 4, 1) := by decide +kernel
theorem dL_law_1033 : decode cL_law 1033 = .ok (.iadd, 1) := by decide +kernel
theorem dL_law_1034 : decode cL_law 1034 = .ok (.iaload, 1) := by decide +kernel
theorem dL_law_1035 : decode cL_law 1035 = .ok (.invokevirtual 102, 3) := by decide +kernel
theorem dL_law_1038 : decode cL_law 1038 = .ok (.aload_n 2, 1) := by decide +kernel
theorem dL_law_1039 : decode cL_law 1039 = .ok (.aload_n 0, 1) := by decide +kernel
theorem dL_law_1040 : decode cL_law 1040 = .ok (.iload_n 3, 1) := by decide +kernel
theorem dL_law_1041 : decode cL_law 1041 = .ok (.iconst 1, 1) := by decide +kernel
theorem dL_law_1042 : decode cL_law 1042 = .ok (.iadd, 1) := by decide +kernel
theorem dL_law_1043 : decode cL_law 1043 = .ok (.iaload, 1) := by decide +kernel
theorem dL_law_1044 : decode cL_law 1044 = .ok (.aload_n 0, 1) := by decide +kernel
theorem dL_law_1045 : decode cL_law 1045 = .ok (.iload_n 3, 1) := by decide +kernel
theorem dL_law_1046 : decode cL_law 1046 = .ok (.iconst 2, 1) := by decide +kernel
theorem dL_law_1047 : decode cL_law 1047 = .ok (.iadd, 1) := by decide +kernel
theorem dL_law_1048 : decode cL_law 1048 = .ok (.iaload, 1) := by decide +kernel
theorem dL_law_1049 : decode cL_law 1049 = .ok (.aload_n 0, 1) := by decide +kernel
theorem dL_law_1050 : decode cL_law 1050 = .ok (.iload_n 3, 1) := by decide +kernel
theorem dL_law_1051 : decode cL_law 1051 = .ok (.iconst 3, 1) := by decide +kernel
theorem dL_law_1052 : decode cL_law 1052 = .ok (.iadd, 1) := by decide +kernel
theorem dL_law_1053 : decode cL_law 1053 = .ok (.iaload, 1) := by decide +kernel
theorem dL_law_1054 : decode cL_law 1054 = .ok (.aload_n 0, 1) := by decide +kernel
theorem dL_law_1055 : decode cL_law 1055 = .ok (.iload_n 3, 1) := by decide +kernel
theorem dL_law_1056 : decode cL_law 1056 = .ok (.iconst 4, 1) := by decide +kernel
theorem dL_law_1057 : decode cL_law 1057 = .ok (.iadd, 1) := by decide +kernel
theorem dL_law_1058 : decode cL_law 1058 = .ok (.iaload, 1) := by decide +kernel
theorem dL_law_1059 : decode cL_law 1059 = .ok (.invokevirtual 105, 3) := by decide +kernel
theorem dL_law_1062 : decode cL_law 1062 = .ok (.if_icmp .eq 237, 3) := by decide +kernel
theorem dL_law_1065 : decode cL_law 1065 = .ok (.iconst 0, 1) := by decide +kernel
theorem dL_law_1066 : decode cL_law 1066 = .ok (.ireturn, 1) := by decide +kernel
theorem dL_law_1067 : decode cL_law 1067 = .ok (.aload_n 1, 1) := by decide +kernel
theorem dL_law_1068 : decode cL_law 1068 = .ok (.invokevirtual 106, 3) := by decide +kernel
theorem dL_law_1071 : decode cL_law 1071 = .ok (.aload_n 2, 1) := by decide +kernel
theorem dL_law_1072 : decode cL_law 1072 = .ok (.invokevirtual 110, 3) := by decide +kernel
theorem dL_law_1075 : decode cL_law 1075 = .ok (.if_icmp .eq 224, 3) := by decide +kernel
theorem dL_law_1078 : decode cL_law 1078 = .ok (.iconst 0, 1) := by decide +kernel
theorem dL_law_1079 : decode cL_law 1079 = .ok (.ireturn, 1) := by decide +kernel
theorem dL_law_1080 : decode cL_law 1080 = .ok (.aload_n 1, 1) := by decide +kernel
theorem dL_law_1081 : decode cL_law 1081 = .ok (.invokevirtual 111, 3) := by decide +kernel
theorem dL_law_1084 : decode cL_law 1084 = .ok (.aload_n 2, 1) := by decide +kernel
theorem dL_law_1085 : decode cL_law 1085 = .ok (.invokevirtual 114, 3) := by decide +kernel
theorem dL_law_1088 : decode cL_law 1088 = .ok (.if_icmp .eq 211, 3) := by decide +kernel
theorem dL_law_1091 : decode cL_law 1091 = .ok (.iconst 0, 1) := by decide +kernel
theorem dL_law_1092 : decode cL_law 1092 = .ok (.ireturn, 1) := by decide +kernel
theorem dL_law_1093 : decode cL_law 1093 = .ok (.aload_n 1, 1) := by decide +kernel
theorem dL_law_1094 : decode cL_law 1094 = .ok (.aload_n 0, 1) := by decide +kernel
theorem dL_law_1095 : decode cL_law 1095 = .ok (.iload_n 3, 1) := by decide +kernel
theorem dL_law_1096 : decode cL_law 1096 = .ok (.iconst 1, 1) := by decide +kernel
theorem dL_law_1097 : decode cL_law 1097 = .ok (.iadd, 1) := by decide +kernel
theorem dL_law_1098 : decode cL_law 1098 = .ok (.iaload, 1) := by decide +kernel
theorem dL_law_1099 : decode cL_law 1099 = .ok (.invokevirtual 115, 3) := by decide +kernel
theorem dL_law_1102 : decode cL_law 1102 = .ok (.aload_n 2, 1) := by decide +kernel
theorem dL_law_1103 : decode cL_law 1103 = .ok (.aload_n 0, 1) := by decide +kernel
theorem dL_law_1104 : decode cL_law 1104 = .ok (.iload_n 3, 1) := by decide +kernel
theorem dL_law_1105 : decode cL_law 1105 = .ok (.iconst 1, 1) := by decide +kernel
theorem dL_law_1106 : decode cL_law 1106 = .ok (.iadd, 1) := by decide +kernel
theorem dL_law_1107 : decode cL_law 1107 = .ok (.iaload, 1) := by decide +kernel
theorem dL_law_1108 : decode cL_law 1108 = .ok (.invokevirtual 118, 3) := by decide +kernel
theorem dL_law_1111 : decode cL_law 1111 = .ok (.if_icmp .eq 188, 3) := by decide +kernel
theorem dL_law_1114 : decode cL_law 1114 = .ok (.iconst 0, 1) := by decide +kernel
theorem dL_law_1115 : decode cL_law 1115 = .ok (.ireturn, 1) := by decide +kernel
theorem dL_law_1116 : decode cL_law 1116 = .ok (.aload_n 1, 1) := by decide +kernel
theorem dL_law_1117 : decode cL_law 1117 = .ok (.aload_n 0, 1) := by decide +kernel
theorem dL_law_1118 : decode cL_law 1118 = .ok (.iload_n 3, 1) := by decide +kernel
theorem dL_law_1119 : decode cL_law 1119 = .ok (.iconst 1, 1) := by decide +kernel
theorem dL_law_1120 : decode cL_law 1120 = .ok (.iadd, 1) := by decide +kernel
theorem dL_law_1121 : decode cL_law 1121 = .ok (.iaload, 1) := by decide +kernel
theorem dL_law_1122 : decode cL_law 1122 = .ok (.aload_n 0, 1) := by decide +kernel
theorem dL_law_1123 : decode cL_law 1123 = .ok (.iload_n 3, 1) := by decide +kernel
theorem dL_law_1124 : decode cL_law 1124 = .ok (.iconst 2, 1) := by decide +kernel
theorem dL_law_1125 : decode cL_law 1125 = .ok (.iadd, 1) := by decide +kernel
theorem dL_law_1126 : decode cL_law 1126 = .ok (.iaload, 1) := by decide +kernel
theorem dL_law_1127 : decode cL_law 1127 = .ok (.aload_n 0, 1) := by decide +kernel
theorem dL_law_1128 : decode cL_law 1128 = .ok (.iload_n 3, 1) := by decide +kernel
theorem dL_law_1129 : decode cL_law 1129 = .ok (.iconst 3, 1) := by decide +kernel
theorem dL_law_1130 : decode cL_law 1130 = .ok (.iadd, 1) := by decide +kernel
theorem dL_law_1131 : decode cL_law 1131 = .ok (.iaload, 1) := by decide +kernel
theorem dL_law_1132 : decode cL_law 1132 = .ok (.invokevirtual 119, 3) := by decide +kernel
theorem dL_law_1135 : decode cL_law 1135 = .ok (.aload_n 2, 1) := by decide +kernel
theorem dL_law_1136 : decode cL_law 1136 = .ok (.aload_n 0, 1) := by decide +kernel
theorem dL_law_1137 : decode cL_law 1137 = .ok (.iload_n 3, 1) := by decide +kernel
theorem dL_law_1138 : decode cL_law 1138 = .ok (.iconst 1, 1) := by decide +kernel
theorem dL_law_1139 : decode cL_law 1139 = .ok (.iadd, 1) := by decide +kernel
theorem dL_law_1140 : decode cL_law 1140 = .ok (.iaload, 1) := by decide +kernel
theorem dL_law_1141 : decode cL_law 1141 = .ok (.aload_n 0, 1) := by decide +kernel
theorem dL_law_1142 : decode cL_law 1142 = .ok (.iload_n 3, 1) := by decide +kernel
theorem dL_law_1143 : decode cL_law 1143 = .ok (.iconst 2, 1) := by decide +kernel
theorem dL_law_1144 : decode cL_law 1144 = .ok (.iadd, 1) := by decide +kernel
theorem dL_law_1145 : decode cL_law 1145 = .ok (.iaload, 1) := by decide +kernel
theorem dL_law_1146 : decode cL_law 1146 = .ok (.aload_n 0, 1) := by decide +kernel
theorem dL_law_1147 : decode cL_law 1147 = .ok (.iload_n 3, 1) := by decide +kernel
theorem dL_law_1148 : decode cL_law 1148 = .ok (.iconst 3, 1) := by decide +kernel
theorem dL_law_1149 : decode cL_law 1149 = .ok (.iadd, 1) := by decide +kernel
theorem dL_law_1150 : decode cL_law 1150 = .ok (.iaload, 1) := by decide +kernel
theorem dL_law_1151 : decode cL_law 1151 = .ok (.invokevirtual 122, 3) := by decide +kernel
theorem dL_law_1154 : decode cL_law 1154 = .ok (.if_icmp .eq 145, 3) := by decide +kernel
theorem dL_law_1157 : decode cL_law 1157 = .ok (.iconst 0, 1) := by decide +kernel
theorem dL_law_1158 : decode cL_law 1158 = .ok (.ireturn, 1) := by decide +kernel
theorem dL_law_1159 : decode cL_law 1159 = .ok (.aload_n 1, 1) := by decide +kernel
theorem dL_law_1160 : decode cL_law 1160 = .ok (.aload_n 0, 1) := by decide +kernel
theorem dL_law_1161 : decode cL_law 1161 = .ok (.iload_n 3, 1) := by decide +kernel
theorem dL_law_1162 : decode cL_law 1162 = .ok (.iconst 1, 1) := by decide +kernel
theorem dL_law_1163 : decode cL_law 1163 = .ok (.iadd, 1) := by decide +kernel
theorem dL_law_1164 : decode cL_law 1164 = .ok (.iaload, 1) := by decide +kernel
theorem dL_law_1165 : decode cL_law 1165 = .ok (.aload_n 0, 1) := by decide +kernel
theorem dL_law_1166 : decode cL_law 1166 = .ok (.iload_n 3, 1) := by decide +kernel
theorem dL_law_1167 : decode cL_law 1167 = .ok (.iconst 2, 1) := by decide +kernel
theorem dL_law_1168 : decode cL_law 1168 = .ok (.iadd, 1) := by decide +kernel
theorem dL_law_1169 : decode cL_law 1169 = .ok (.iaload, 1) := by decide +kernel
theorem dL_law_1170 : decode cL_law 1170 = .ok (.aload_n 0, 1) := by decide +kernel
theorem dL_law_1171 : decode cL_law 1171 = .ok (.iload_n 3, 1) := by decide +kernel
theorem dL_law_1172 : decode cL_law 1172 = .ok (.iconst 3, 1) := by decide +kernel
theorem dL_law_1173 : decode cL_law 1173 = .ok (.iadd, 1) := by decide +kernel
theorem dL_law_1174 : decode cL_law 1174 = .ok (.iaload, 1) := by decide +kernel
theorem dL_law_1175 : decode cL_law 1175 = .ok (.invokevirtual 123, 3) := by decide +kernel
theorem dL_law_1178 : decode cL_law 1178 = .ok (.aload_n 2, 1) := by decide +kernel
theorem dL_law_1179 : decode cL_law 1179 = .ok (.aload_n 0, 1) := by decide +kernel
theorem dL_law_1180 : decode cL_law 1180 = .ok (.iload_n 3, 1) := by decide +kernel
theorem dL_law_1181 : decode cL_law 1181 = .ok (.iconst 1, 1) := by decide +kernel
theorem dL_law_1182 : decode cL_law 1182 = .ok (.iadd, 1) := by decide +kernel
theorem dL_law_1183 : decode cL_law 1183 = .ok (.iaload, 1) := by decide +kernel
theorem dL_law_1184 : decode cL_law 1184 = .ok (.aload_n 0, 1) := by decide +kernel
theorem dL_law_1185 : decode cL_law 1185 = .ok (.iload_n 3, 1) := by decide +kernel
theorem dL_law_1186 : decode cL_law 1186 = .ok (.iconst 2, 1) := by decide +kernel
theorem dL_law_1187 : decode cL_law 1187 = .ok (.iadd, 1) := by decide +kernel
theorem dL_law_1188 : decode cL_law 1188 = .ok (.iaload, 1) := by decide +kernel
theorem dL_law_1189 : decode cL_law 1189 = .ok (.aload_n 0, 1) := by decide +kernel
theorem dL_law_1190 : decode cL_law 1190 = .ok (.iload_n 3, 1) := by decide +kernel
theorem dL_law_1191 : decode cL_law 1191 = .ok (.iconst 3, 1) := by decide +kernel
theorem dL_law_1192 : decode cL_law 1192 = .ok (.iadd, 1) := by decide +kernel
theorem dL_law_1193 : decode cL_law 1193 = .ok (.iaload, 1) := by decide +kernel
theorem dL_law_1194 : decode cL_law 1194 = .ok (.invokevirtual 126, 3) := by decide +kernel
theorem dL_law_1197 : decode cL_law 1197 = .ok (.if_icmp .eq 102, 3) := by decide +kernel
theorem dL_law_1200 : decode cL_law 1200 = .ok (.iconst 0, 1) := by decide +kernel
theorem dL_law_1201 : decode cL_law 1201 = .ok (.ireturn, 1) := by decide +kernel
theorem dL_law_1202 : decode cL_law 1202 = .ok (.aload_n 1, 1) := by decide +kernel
theorem dL_law_1203 : decode cL_law 1203 = .ok (.aload_n 0, 1) := by decide +kernel
theorem dL_law_1204 : decode cL_law 1204 = .ok (.iload_n 3, 1) := by decide +kernel
theorem dL_law_1205 : decode cL_law 1205 = .ok (.iconst 1, 1) := by decide +kernel
theorem dL_law_1206 : decode cL_law 1206 = .ok (.iadd, 1) := by decide +kernel
theorem dL_law_1207 : decode cL_law 1207 = .ok (.iaload, 1) := by decide +kernel
theorem dL_law_1208 : decode cL_law 1208 = .ok (.aload_n 0, 1) := by decide +kernel
theorem dL_law_1209 : decode cL_law 1209 = .ok (.iload_n 3, 1) := by decide +kernel
theorem dL_law_1210 : decode cL_law 1210 = .ok (.iconst 2, 1) := by decide +kernel
theorem dL_law_1211 : decode cL_law 1211 = .ok (.iadd, 1) := by decide +kernel
theorem dL_law_1212 : decode cL_law 1212 = .ok (.iaload, 1) := by decide +kernel
theorem dL_law_1213 : decode cL_law 1213 = .ok (.invokevirtual 127, 3) := by decide +kernel
theorem dL_law_1216 : decode cL_law 1216 = .ok (.aload_n 2, 1) := by decide +kernel
theorem dL_law_1217 : decode cL_law 1217 = .ok (.aload_n 0, 1) := by decide +kernel
theorem dL_law_1218 : decode cL_law 1218 = .ok (.iload_n 3, 1) := by decide +kernel
theorem dL_law_1219 : decode cL_law 1219 = .ok (.iconst 1, 1) := by decide +kernel
theorem dL_law_1220 : decode cL_law 1220 = .ok (.iadd, 1) := by decide +kernel
theorem dL_law_1221 : decode cL_law 1221 = .ok (.iaload, 1) := by decide +kernel
theorem dL_law_1222 : decode cL_law 1222 = .ok (.aload_n 0, 1) := by decide +kernel
theorem dL_law_1223 : decode cL_law 1223 = .ok (.iload_n 3, 1) := by decide +kernel
theorem dL_law_1224 : decode cL_law 1224 = .ok (.iconst 2, 1) := by decide +kernel
theorem dL_law_1225 : decode cL_law 1225 = .ok (.iadd, 1) := by decide +kernel
theorem dL_law_1226 : decode cL_law 1226 = .ok (.iaload, 1) := by decide +kernel
theorem dL_law_1227 : decode cL_law 1227 = .ok (.invokevirtual 130, 3) := by decide +kernel
theorem dL_law_1230 : decode cL_law 1230 = .ok (.lcmp, 1) := by decide +kernel
theorem dL_law_1231 : decode cL_law 1231 = .ok (.ifCond .eq 68, 3) := by decide +kernel
theorem dL_law_1234 : decode cL_law 1234 = .ok (.iconst 0, 1) := by decide +kernel
theorem dL_law_1235 : decode cL_law 1235 = .ok (.ireturn, 1) := by decide +kernel
theorem dL_law_1236 : decode cL_law 1236 = .ok (.aload_n 1, 1) := by decide +kernel
theorem dL_law_1237 : decode cL_law 1237 = .ok (.aload_n 0, 1) := by decide +kernel
theorem dL_law_1238 : decode cL_law 1238 = .ok (.iload_n 3, 1) := by decide +kernel
theorem dL_law_1239 : decode cL_law 1239 = .ok (.iconst 1, 1) := by decide +kernel
theorem dL_law_1240 : decode cL_law 1240 = .ok (.iadd, 1) := by decide +kernel
theorem dL_law_1241 : decode cL_law 1241 = .ok (.iaload, 1) := by decide +kernel
theorem dL_law_1242 : decode cL_law 1242 = .ok (.aload_n 0, 1) := by decide +kernel
theorem dL_law_1243 : decode cL_law 1243 = .ok (.iload_n 3, 1) := by decide +kernel
theorem dL_law_1244 : decode cL_law 1244 = .ok (.iconst 2, 1) := by decide +kernel
theorem dL_law_1245 : decode cL_law 1245 = .ok (.iadd, 1) := by decide +kernel
theorem dL_law_1246 : decode cL_law 1246 = .ok (.iaload, 1) := by decide +kernel
theorem dL_law_1247 : decode cL_law 1247 = .ok (.aload_n 0, 1) := by decide +kernel
theorem dL_law_1248 : decode cL_law 1248 = .ok (.iload_n 3, 1) := by decide +kernel
theorem dL_law_1249 : decode cL_law 1249 = .ok (.iconst 3, 1) := by decide +kernel
theorem dL_law_1250 : decode cL_law 1250 = .ok (.iadd, 1) := by decide +kernel
theorem dL_law_1251 : decode cL_law 1251 = .ok (.iaload, 1) := by decide +kernel
theorem dL_law_1252 : decode cL_law 1252 = .ok (.aload_n 0, 1) := by decide +kernel
theorem dL_law_1253 : decode cL_law 1253 = .ok (.iload_n 3, 1) := by decide +kernel
theorem dL_law_1254 : decode cL_law 1254 = .ok (.iconst 4, 1) := by decide +kernel
theorem dL_law_1255 : decode cL_law 1255 = .ok (.iadd, 1) := by decide +kernel
theorem dL_law_1256 : decode cL_law 1256 = .ok (.iaload, 1) := by decide +kernel
theorem dL_law_1257 : decode cL_law 1257 = .ok (.aload_n 0, 1) := by decide +kernel
theorem dL_law_1258 : decode cL_law 1258 = .ok (.iload_n 3, 1) := by decide +kernel
theorem dL_law_1259 : decode cL_law 1259 = .ok (.iconst 5, 1) := by decide +kernel
theorem dL_law_1260 : decode cL_law 1260 = .ok (.iadd, 1) := by decide +kernel
theorem dL_law_1261 : decode cL_law 1261 = .ok (.iaload, 1) := by decide +kernel
theorem dL_law_1262 : decode cL_law 1262 = .ok (.invokevirtual 131, 3) := by decide +kernel
theorem dL_law_1265 : decode cL_law 1265 = .ok (.aload_n 2, 1) := by decide +kernel
theorem dL_law_1266 : decode cL_law 1266 = .ok (.aload_n 0, 1) := by decide +kernel
theorem dL_law_1267 : decode cL_law 1267 = .ok (.iload_n 3, 1) := by decide +kernel
theorem dL_law_1268 : decode cL_law 1268 = .ok (.iconst 1, 1) := by decide +kernel
theorem dL_law_1269 : decode cL_law 1269 = .ok (.iadd, 1) := by decide +kernel
theorem dL_law_1270 : decode cL_law 1270 = .ok (.iaload, 1) := by decide +kernel
theorem dL_law_1271 : decode cL_law 1271 = .ok (.aload_n 0, 1) := by decide +kernel
theorem dL_law_1272 : decode cL_law 1272 = .ok (.iload_n 3, 1) := by decide +kernel
theorem dL_law_1273 : decode cL_law 1273 = .ok (.iconst 2, 1) := by decide +kernel
theorem dL_law_1274 : decode cL_law 1274 = .ok (.iadd, 1) := by decide +kernel
theorem dL_law_1275 : decode cL_law 1275 = .ok (.iaload, 1) := by decide +kernel
theorem dL_law_1276 : decode cL_law 1276 = .ok (.aload_n 0, 1) := by decide +kernel
theorem dL_law_1277 : decode cL_law 1277 = .ok (.iload_n 3, 1) := by decide +kernel
theorem dL_law_1278 : decode cL_law 1278 = .ok (.iconst 3, 1) := by decide +kernel
theorem dL_law_1279 : decode cL_law 1279 = .ok (.iadd, 1) := by decide +kernel
theorem dL_law_1280 : decode cL_law 1280 = .ok (.iaload, 1) := by decide +kernel
theorem dL_law_1281 : decode cL_law 1281 = .ok (.aload_n 0, 1) := by decide +kernel
theorem dL_law_1282 : decode cL_law 1282 = .ok (.iload_n 3, 1) := by decide +kernel
theorem dL_law_1283 : decode cL_law 1283 = .ok (.iconst 4, 1) := by decide +kernel
theorem dL_law_1284 : decode cL_law 1284 = .ok (.iadd, 1) := by decide +kernel
theorem dL_law_1285 : decode cL_law 1285 = .ok (.iaload, 1) := by decide +kernel
theorem dL_law_1286 : decode cL_law 1286 = .ok (.aload_n 0, 1) := by decide +kernel
theorem dL_law_1287 : decode cL_law 1287 = .ok (.iload_n 3, 1) := by decide +kernel
theorem dL_law_1288 : decode cL_law 1288 = .ok (.iconst 5, 1) := by decide +kernel
theorem dL_law_1289 : decode cL_law 1289 = .ok (.iadd, 1) := by decide +kernel
theorem dL_law_1290 : decode cL_law 1290 = .ok (.iaload, 1) := by decide +kernel
theorem dL_law_1291 : decode cL_law 1291 = .ok (.invokevirtual 135, 3) := by decide +kernel
theorem dL_law_1294 : decode cL_law 1294 = .ok (.if_icmp .eq 5, 3) := by decide +kernel
theorem dL_law_1297 : decode cL_law 1297 = .ok (.iconst 0, 1) := by decide +kernel
theorem dL_law_1298 : decode cL_law 1298 = .ok (.ireturn, 1) := by decide +kernel
theorem dL_law_1299 : decode cL_law 1299 = .ok (.iinc 3 7, 3) := by decide +kernel
theorem dL_law_1302 : decode cL_law 1302 = .ok (.goto (-1284), 3) := by decide +kernel
theorem dL_law_1305 : decode cL_law 1305 = .ok (.iconst 1, 1) := by decide +kernel
theorem dL_law_1306 : decode cL_law 1306 = .ok (.ireturn, 1) := by decide +kernel