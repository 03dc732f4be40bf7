theorem dX12_behindOf_91 : decode cX12_behindOf 91 = .ok (.iload 4, 2) := by decide +kernel
theorem dX12_behindOf_93 : decode cX12_behindOf 93 = .ok (.iconst (-1), 1) := by decide +kernel
theorem dX12_behindOf_94 : decode cX12_behindOf 94 = .ok (.if_icmp .eq 12, 3) := by decide +kernel
theorem dX12_behindOf_97 : decode cX12_behindOf 97 = .ok (.iload 7, 2) := by decide +kernel
theorem dX12_behindOf_99 : decode cX12_behindOf 99 = .ok (.iload 4, 2) := by decide +kernel
theorem dX12_behindOf_101 : decode cX12_behindOf 101 = .ok (.if_icmp .eq 5, 3) := by decide +kernel
theorem dX12_behindOf_104 : decode cX12_behindOf 104 = .ok (.iconst (-1), 1) := by decide +kernel
theorem dX12_behindOf_105 : decode cX12_behindOf 105 = .ok (.ireturn, 1) := by decide +kernel
theorem dX12_behindOf_106 : decode cX12_behindOf 106 = .ok (.iload_n 3, 1) := by decide +kernel
theorem dX12_behindOf_107 : decode cX12_behindOf 107 = .ok (.iload 5, 2) := by decide +kernel
theorem dX12_behindOf_109 : decode cX12_behindOf 109 = .ok (.invokestatic 64, 3) := by decide +kernel
theorem dX12_behindOf_112 : decode cX12_behindOf 112 = .ok (.ifCond .eq 8, 3) := by decide +kernel
theorem dX12_behindOf_115 : decode cX12_behindOf 115 = .ok (.iload 7, 2) := by decide +kernel
theorem dX12_behindOf_117 : decode cX12_behindOf 117 = .ok (.goto 5, 3) := by decide +kernel
theorem dX12_behindOf_120 : decode cX12_behindOf 120 = .ok (.iload 4, 2) := by decide +kernel
theorem dX12_behindOf_122 : decode cX12_behindOf 122 = .ok (.istore 4, 2) := by decide +kernel
theorem dX12_behindOf_124 : decode cX12_behindOf 124 = .ok (.iinc 5 1, 3) := by decide +kernel
theorem dX12_behindOf_127 : decode cX12_behindOf 127 = .ok (.goto (-121), 3) := by decide +kernel
theorem dX12_behindOf_130 : decode cX12_behindOf 130 = .ok (.iload 4, 2) := by decide +kernel
theorem dX12_behindOf_132 : decode cX12_behindOf 132 = .ok (.iconst (-1), 1) := by decide +kernel
theorem dX12_behindOf_133 : decode cX12_behindOf 133 = .ok (.if_icmp .eq 18, 3) := by decide +kernel
theorem dX12_behindOf_136 : decode cX12_behindOf 136 = .ok (.aload_n 0, 1) := by decide +kernel
theorem dX12_behindOf_137 : decode cX12_behindOf 137 = .ok (.iload 4, 2) := by decide +kernel
theorem dX12_behindOf_139 : decode cX12_behindOf 139 = .ok (.invokevirtual 278, 3) := by decide +kernel
theorem dX12_behindOf_142 : decode cX12_behindOf 142 = .ok (.iload_n 3, 1) := by decide +kernel
theorem dX12_behindOf_143 : decode cX12_behindOf 143 = .ok (.if_icmp .ne 8, 3) := by decide +kernel
theorem dX12_behindOf_146 : decode cX12_behindOf 146 = .ok (.iload 4, 2) := by decide +kernel
theorem dX12_behindOf_148 : decode cX12_behindOf 148 = .ok (.goto 4, 3) := by decide +kernel
theorem dX12_behindOf_151 : decode cX12_behindOf 151 = .ok (.iconst (-1), 1) := by decide +kernel
theorem dX12_behindOf_152 : decode cX12_behindOf 152 = .ok (.ireturn, 1) := by decide +kernel
theorem dX12_hasAhead_0 : decode cX12_hasAhead 0 = .ok (.iconst 0, 1) := by decide +kernel
theorem dX12_hasAhead_1 : decode cX12_hasAhead 1 = .ok (.istore 4, 2) := by decide +kernel
theorem dX12_hasAhead_3 : decode cX12_hasAhead 3 = .ok (.iload 4, 2) := by decide +kernel
theorem dX12_hasAhead_5 : decode cX12_hasAhead 5 = .ok (.aload_n 0, 1) := by decide +kernel
theorem dX12_hasAhead_6 : decode cX12_hasAhead 6 = .ok (.getfield 253, 3) := by decide +kernel
theorem dX12_hasAhead_9 : decode cX12_hasAhead 9 = .ok (.if_icmp .ge 48, 3) := by decide +kernel
theorem dX12_hasAhead_12 : decode cX12_hasAhead 12 = .ok (.aload_n 0, 1) := by decide +kernel
theorem dX12_hasAhead_13 : decode cX12_hasAhead 13 = .ok (.getfield 35, 3) := by decide +kernel
theorem dX12_hasAhead_16 : decode cX12_hasAhead 16 = .ok (.sipush 1206, 3) := by decide +kernel
theorem dX12_hasAhead_19 : decode cX12_hasAhead 19 = .ok (.iload 4, 2) := by decide +kernel
theorem dX12_hasAhead_21 : decode cX12_hasAhead 21 = .ok (.iadd, 1) := by decide +kernel
theorem dX12_hasAhead_22 : decode cX12_hasAhead 22 = .ok (.iaload, 1) := by decide +kernel
theorem dX12_hasAhead_23 : decode cX12_hasAhead 23 = .ok (.iload_n 1, 1) := by decide +kernel
theorem dX12_hasAhead_24 : decode cX12_hasAhead 24 = .ok (.if_icmp .ne 27, 3) := by decide +kernel
theorem dX12_hasAhead_27 : decode cX12_hasAhead 27 = .ok (.aload_n 0, 1) := by decide +kernel
theorem dX12_hasAhead_28 : decode cX12_hasAhead 28 = .ok (.iload 4, 2) := by decide +kernel
theorem dX12_hasAhead_30 : decode cX12_hasAhead 30 = .ok (.invokevirtual 278, 3) := by decide +kernel
theorem dX12_hasAhead_33 : decode cX12_hasAhead 33 = .ok (.iload_n 3, 1) := by decide +kernel
theorem dX12_hasAhead_34 : decode cX12_hasAhead 34 = .ok (.if_icmp .ne 17, 3) := by decide +kernel
theorem dX12_hasAhead_37 : decode cX12_hasAhead 37 = .ok (.aload_n 0, 1) := by decide +kernel
theorem dX12_hasAhead_38 : decode cX12_hasAhead 38 = .ok (.iload_n 1, 1) := by decide +kernel
theorem dX12_hasAhead_39 : decode cX12_hasAhead 39 = .ok (.iload 4, 2) := by decide +kernel
theorem dX12_hasAhead_41 : decode cX12_hasAhead 41 = .ok (.iload_n 3, 1) := by decide +kernel
theorem dX12_hasAhead_42 : decode cX12_hasAhead 42 = .ok (.invokevirtual 291, 3) := by decide +kernel
theorem dX12_hasAhead_45 : decode cX12_hasAhead 45 = .ok (.iload_n 2, 1) := by decide +kernel
theorem dX12_hasAhead_46 : decode cX12_hasAhead 46 = .ok (.if_icmp .ne 5, 3) := by decide +kernel
theorem dX12_hasAhead_49 : decode cX12_hasAhead 49 = .ok (.iconst 1, 1) := by decide +kernel
theorem dX12_hasAhead_50 : decode cX12_hasAhead 50 = .ok (.ireturn, 1) := by decide +kernel
theorem dX12_hasAhead_51 : decode cX12_hasAhead 51 = .ok (.iinc 4 1, 3) := by decide +kernel
theorem dX12_hasAhead_54 : decode cX12_hasAhead 54 = .ok (.goto (-51), 3) := by decide +kernel
theorem dX12_hasAhead_57 : decode cX12_hasAhead 57 = .ok (.iconst 0, 1) := by decide +kernel
theorem dX12_hasAhead_58 : decode cX12_hasAhead 58 = .ok (.ireturn, 1) := by decide +kernel
theorem dX12_passages_0 : decode cX12_passages 0 = .ok (.iconst 0, 1) := by decide +kernel
theorem dX12_passages_1 : decode cX12_passages 1 = .ok (.istore_n 3, 1) := by decide +kernel
theorem dX12_passages_2 : decode cX12_passages 2 = .ok (.iconst 0, 1) := by decide +kernel
theorem dX12_passages_3 : decode cX12_passages 3 = .ok (.istore 4, 2) := by decide +kernel
theorem dX12_passages_5 : decode cX12_passages 5 = .ok (.iconst 0, 1) := by decide +kernel
theorem dX12_passages_6 : decode cX12_passages 6 = .ok (.istore 5, 2) := by decide +kernel
theorem dX12_passages_8 : decode cX12_passages 8 = .ok (.iload 5, 2) := by decide +kernel
theorem dX12_passages_10 : decode cX12_passages 10 = .ok (.aload_n 0, 1) := by decide +kernel
theorem dX12_passages_11 : decode cX12_passages 11 = .ok (.getfield 253, 3) := by decide +kernel
theorem dX12_passages_14 : decode cX12_passages 14 = .ok (.if_icmp .ge 95, 3) := by decide +kernel
theorem dX12_passages_17 : decode cX12_passages 17 = .ok (.aload_n 0, 1) := by decide +kernel
theorem dX12_passages_18 : decode cX12_passages 18 = .ok (.getfield 35, 3) := by decide +kernel
theorem dX12_passages_21 : decode cX12_passages 21 = .ok (.sipush 1206, 3) := by decide +kernel
theorem dX12_passages_24 : decode cX12_passages 24 = .ok (.iload 5, 2) := by decide +kernel
theorem dX12_passages_26 : decode cX12_passages 26 = .ok (.iadd, 1) := by decide +kernel
theorem dX12_passages_27 : decode cX12_passages 27 = .ok (.iaload, 1) := by decide +kernel
theorem dX12_passages_28 : decode cX12_passages 28 = .ok (.iload_n 1, 1) := by decide +kernel
theorem dX12_passages_29 : decode cX12_passages 29 = .ok (.if_icmp .ne 12, 3) := by decide +kernel
theorem dX12_passages_32 : decode cX12_passages 32 = .ok (.aload_n 0, 1) := by decide +kernel
theorem dX12_passages_33 : decode cX12_passages 33 = .ok (.iload 5, 2) := by decide +kernel
theorem dX12_passages_35 : decode cX12_passages 35 = .ok (.invokevirtual 278, 3) := by decide +kernel
theorem dX12_passages_38 : decode cX12_passages 38 = .ok (.goto 4, 3) := by decide +kernel
theorem dX12_passages_41 : decode cX12_passages 41 = .ok (.iconst 0, 1) := by decide +kernel
theorem dX12_passages_42 : decode cX12_passages 42 = .ok (.istore 6, 2) := by decide +kernel
theorem dX12_passages_44 : decode cX12_passages 44 = .ok (.iload 6, 2) := by decide +kernel
theorem dX12_passages_46 : decode cX12_passages 46 = .ok (.ifCond .eq 57, 3) := by decide +kernel
theorem dX12_passages_49 : decode cX12_passages 49 = .ok (.aload_n 0, 1) := by decide +kernel
theorem dX12_passages_50 : decode cX12_passages 50 = .ok (.iload_n 1, 1) := by decide +kernel
theorem dX12_passages_51 : decode cX12_passages 51 = .ok (.iload 5, 2) := by decide +kernel
theorem dX12_passages_53 : decode cX12_passages 53 = .ok (.iload 6, 2) := by decide +kernel
theorem dX12_passages_55 : decode cX12_passages 55 = .ok (.invokevirtual 294, 3) := by decide +kernel
theorem dX12_passages_58 : decode cX12_passages 58 = .ok (.ifCond .ne 45, 3) := by decide +kernel
theorem dX12_passages_61 : decode cX12_passages 61 = .ok (.iinc 3 1, 3) := by decide +kernel
theorem dX12_passages_64 : decode cX12_passages 64 = .ok (.iconst 0, 1) := by decide +kernel
theorem dX12_passages_65 : decode cX12_passages 65 = .ok (.istore 7, 2) := by decide +kernel
theorem dX12_passages_67 : decode cX12_passages 67 = .ok (.iload 5, 2) := by decide +kernel
theorem dX12_passages_69 : decode cX12_passages 69 = .ok (.istore 8, 2) := by decide +kernel
theorem dX12_passages_71 : decode cX12_passages 71 = .ok (.iload 8, 2) := by decide +kernel
theorem dX12_passages_73 : decode cX12_passages 73 = .ok (.iconst (-1), 1) := by decide +kernel
theorem dX12_passages_74 : decode cX12_passages 74 = .ok (.if_icmp .eq 20, 3) := by decide +kernel
theorem dX12_passages_77 : decode cX12_passages 77 = .ok (.iinc 7 1, 3) := by decide +kernel
theorem dX12_passages_80 : decode cX12_passages 80 = .ok (.aload_n 0, 1) := by decide +kernel
theorem dX12_passages_81 : decode cX12_passages 81 = .ok (.iload_n 1, 1) := by decide +kernel
theorem dX12_passages_82 : decode cX12_passages 82 = .ok (.iload 8, 2) := by decide +kernel
theorem dX12_passages_84 : decode cX12_passages 84 = .ok (.iload 6, 2) := by decide +kernel
theorem dX12_passages_86 : decode cX12_passages 86 = .ok (.invokevirtual 291, 3) := by decide +kernel
theorem dX12_passages_89 : decode cX12_passages 89 = .ok (.istore 8, 2) := by decide +kernel
theorem dX12_passages_91 : decode cX12_passages 91 = .ok (.goto (-20), 3) := by decide +kernel
theorem dX12_passages_94 : decode cX12_passages 94 = .ok (.iload 4, 2) := by decide +kernel
theorem dX12_passages_96 : decode cX12_passages 96 = .ok (.iload 7, 2) := by decide +kernel
theorem dX12_passages_98 : decode cX12_passages 98 = .ok (.invokestatic 297, 3) := by decide +kernel
theorem dX12_passages_101 : decode cX12_passages 101 = .ok (.istore 4, 2) := by decide +kernel
theorem dX12_passages_103 : decode cX12_passages 103 = .ok (.iinc 5 1, 3) := by decide +kernel
theorem dX12_passages_106 : decode cX12_passages 106 = .ok (.goto (-98), 3) := by decide +kernel
theorem dX12_passages_109 : decode cX12_passages 109 = .ok (.iload_n 2, 1) := by decide +kernel
theorem dX12_passages_110 : decode cX12_passages 110 = .ok (.ifCond .eq 8, 3) := by decide +kernel
theorem dX12_passages_113 : decode cX12_passages 113 = .ok (.iload 4, 2) := by decide +kernel
theorem dX12_passages_115 : decode cX12_passages 115 = .ok (.goto 4, 3) := by decide +kernel
theorem dX12_passages_118 : decode cX12_passages 118 = .ok (.iload_n 3, 1) := by decide +kernel
theorem dX12_passages_119 : decode cX12_passages 119 = .ok (.ireturn, 1) := by decide +kernel
theorem dX12_keptIn_0 : decode cX12_keptIn 0 = .ok (.iconst 0, 1) := by decide +kernel
theorem dX12_keptIn_1 : decode cX12_keptIn 1 = .ok (.istore_n 2, 1) := by decide +kernel
theorem dX12_keptIn_2 : decode cX12_keptIn 2 = .ok (.iconst 0, 1) := by decide +kernel
theorem dX12_keptIn_3 : decode cX12_keptIn 3 = .ok (.istore_n 3, 1) := by decide +kernel
theorem dX12_keptIn_4 : decode cX12_keptIn 4 = .ok (.iload_n 3, 1) := by decide +kernel
theorem dX12_keptIn_5 : decode cX12_keptIn 5 = .ok (.aload_n 0, 1) := by decide +kernel
theorem dX12_keptIn_6 : decode cX12_keptIn 6 = .ok (.getfield 253, 3) := by decide +kernel
theorem dX12_keptIn_9 : decode cX12_keptIn 9 = .ok (.if_icmp .ge 47, 3) := by decide +kernel
theorem dX12_keptIn_12 : decode cX12_keptIn 12 = .ok (.iload_n 2, 1) := by decide +kernel
theorem dX12_keptIn_13 : decode cX12_keptIn 13 = .ok (.aload_n 0, 1) := by decide +kernel
theorem dX12_keptIn_14 : decode cX12_keptIn 14 = .ok (.getfield 35, 3) := by decide +kernel
theorem dX12_keptIn_17 : decode cX12_keptIn 17 = .ok (.sipush 1206, 3) := by decide +kernel
theorem dX12_keptIn_20 : decode cX12_keptIn 20 = .ok (.iload_n 3, 1) := by decide +kernel
theorem dX12_keptIn_21 : decode cX12_keptIn 21 = .ok (.iadd, 1) := by decide +kernel
theorem dX12_keptIn_22 : decode cX12_keptIn 22 = .ok (.iaload, 1) := by decide +kernel
theorem dX12_keptIn_23 : decode cX12_keptIn 23 = .ok (.iload_n 1, 1) := by decide +kernel
theorem dX12_keptIn_24 : decode cX12_keptIn 24 = .ok (.if_icmp .ne 23, 3) := by decide +kernel
theorem dX12_keptIn_27 : decode cX12_keptIn 27 = .ok (.aload_n 0, 1) := by decide +kernel
theorem dX12_keptIn_28 : decode cX12_keptIn 28 = .ok (.iload_n 3, 1) := by decide +kernel
theorem dX12_keptIn_29 : decode cX12_keptIn 29 = .ok (.invokevirtual 278, 3) := by decide +kernel
theorem dX12_keptIn_32 : decode cX12_keptIn 32 = .ok (.invokestatic 300, 3) := by decide +kernel
theorem dX12_keptIn_35 : decode cX12_keptIn 35 = .ok (.aload_n 0, 1) := by decide +kernel
theorem dX12_keptIn_36 : decode cX12_keptIn 36 = .ok (.iload_n 1, 1) := by decide +kernel
theorem dX12_keptIn_37 : decode cX12_keptIn 37 = .ok (.invokevirtual 259, 3) := by decide +kernel
theorem dX12_keptIn_40 : decode cX12_keptIn 40 = .ok (.if_icmp .ne 7, 3) := by decide +kernel
theorem dX12_keptIn_43 : decode cX12_keptIn 43 = .ok (.iconst 1, 1) := by decide +kernel
theorem dX12_keptIn_44 : decode cX12_keptIn 44 = .ok (.goto 4, 3) := by decide +kernel
theorem dX12_keptIn_47 : decode cX12_keptIn 47 = .ok (.iconst 0, 1) := by decide +kernel
theorem dX12_keptIn_48 : decode cX12_keptIn 48 = .ok (.iadd, 1) := by decide +kernel
theorem dX12_keptIn_49 : decode cX12_keptIn 49 = .ok (.istore_n 2, 1) := by decide +kernel
theorem dX12_keptIn_50 : decode cX12_keptIn 50 = .ok (.iinc 3 1, 3) := by decide +kernel
theorem dX12_keptIn_53 : decode cX12_keptIn 53 = .ok (.goto (-49), 3) := by decide +kernel
theorem dX12_keptIn_56 : decode cX12_keptIn 56 = .ok (.iload_n 2, 1) := by decide +kernel
theorem dX12_keptIn_57 : decode cX12_keptIn 57 = .ok (.ireturn, 1) := by decide +kernel
theorem dX12_returns_0 : decode cX12_returns 0 = .ok (.iconst 0, 1) := by decide +kernel
theorem dX12_returns_1 : decode cX12_returns 1 = .ok (.istore_n 2, 1) := by decide +kernel
theorem dX12_returns_2 : decode cX12_returns 2 = .ok (.iconst 1, 1) := by decide +kernel
theorem dX12_returns_3 : decode cX12_returns 3 = .ok (.istore_n 3, 1) := by decide +kernel
theorem dX12_returns_4 : decode cX12_returns 4 = .ok (.iload_n 3, 1) := by decide +kernel
theorem dX12_returns_5 : decode cX12_returns 5 = .ok (.aload_n 0, 1) := by decide +kernel
theorem dX12_returns_6 : decode cX12_returns 6 = .ok (.iload_n 1, 1) := by decide +kernel
theorem dX12_returns_7 : decode cX12_returns 7 = .ok (.invokevirtual 259, 3) := by decide +kernel
theorem dX12_returns_10 : decode cX12_returns 10 = .ok (.if_icmp .ge 77, 3) := by decide +kernel
theorem dX12_returns_13 : decode cX12_returns 13 = .ok (.iconst 0, 1) := by decide +kernel
theorem dX12_returns_14 : decode cX12_returns 14 = .ok (.istore 4, 2) := by decide +kernel
theorem dX12_returns_16 : decode cX12_returns 16 = .ok (.iconst 0, 1) := by decide +kernel
theorem dX12_returns_17 : decode cX12_returns 17 = .ok (.istore 5, 2) := by decide +kernel
theorem dX12_returns_19 : decode cX12_returns 19 = .ok (.iload 5, 2) := by decide +kernel
theorem dX12_returns_21 : decode cX12_returns 21 = .ok (.iload_n 3, 1) := by decide +kernel
theorem dX12_returns_22 : decode cX12_returns 22 = .ok (.if_icmp .ge 33, 3) := by decide +kernel
theorem dX12_returns_25 : decode cX12_returns 25 = .ok (.iload 4, 2) := by decide +kernel
theorem dX12_returns_27 : decode cX12_returns 27 = .ok (.ifCond .ne 15, 3) := by decide +kernel
theorem dX12_returns_30 : decode cX12_returns 30 = .ok (.aload_n 0, 1) := by decide +kernel
theorem dX12_returns_31 : decode cX12_returns 31 = .ok (.iload_n 1, 1) := by decide +kernel
theorem dX12_returns_32 : decode cX12_returns 32 = .ok (.iload_n 3, 1) := by decide +kernel
theorem dX12_returns_33 : decode cX12_returns 33 = .ok (.iload_n 1, 1) := by decide +kernel
theorem dX12_returns_34 : decode cX12_returns 34 = .ok (.iload 5, 2) := by decide +kernel
theorem dX12_returns_36 : decode cX12_returns 36 = .ok (.invokevirtual 287, 3) := by decide +kernel
theorem dX12_returns_39 : decode cX12_returns 39 = .ok (.ifCond .eq 7, 3) := by decide +kernel
theorem dX12_returns_42 : decode cX12_returns 42 = .ok (.iconst 1, 1) := by decide +kernel
theorem dX12_returns_43 : decode cX12_returns 43 = .ok (.goto 4, 3) := by decide +kernel
theorem dX12_returns_46 : decode cX12_returns 46 = .ok (.iconst 0, 1) := by decide +kernel
theorem dX12_returns_47 : decode cX12_returns 47 = .ok (.istore 4, 2) := by decide +kernel
theorem dX12_returns_49 : decode cX12_returns 49 = .ok (.iinc 5 1, 3) := by decide +kernel
theorem dX12_returns_52 : decode cX12_returns 52 = .ok (.goto (-33), 3) := by decide +kernel
theorem dX12_returns_55 : decode cX12_returns 55 = .ok (.iload_n 2, 1) := by decide +kernel
theorem dX12_returns_56 : decode cX12_returns 56 = .ok (.iload 4, 2) := by decide +kernel
theorem dX12_returns_58 : decode cX12_returns 58 = .ok (.ifCond .eq 20, 3) := by decide +kernel
theorem dX12_returns_61 : decode cX12_returns 61 = .ok (.aload_n 0, 1) := by decide +kernel
theorem dX12_returns_62 : decode cX12_returns 62 = .ok (.iload_n 1, 1) := by decide +kernel
theorem dX12_returns_63 : decode cX12_returns 63 = .ok (.iload_n 3, 1) := by decide +kernel
theorem dX12_returns_64 : decode cX12_returns 64 = .ok (.iload_n 1, 1) := by decide +kernel
theorem dX12_returns_65 : decode cX12_returns 65 = .ok (.iload_n 3, 1) := by decide +kernel
theorem dX12_returns_66 : decode cX12_returns 66 = .ok (.iconst 1, 1) := by decide +kernel
theorem dX12_returns_67 : decode cX12_returns 67 = .ok (.isub, 1) := by decide +kernel
theorem dX12_returns_68 : decode cX12_returns 68 = .ok (.invokevirtual 287, 3) := by decide +kernel
theorem dX12_returns_71 : decode cX12_returns 71 = .ok (.ifCond .ne 7, 3) := by decide +kernel
theorem dX12_returns_74 : decode cX12_returns 74 = .ok (.iconst 1, 1) := by decide +kernel
theorem dX12_returns_75 : decode cX12_returns 75 = .ok (.goto 4, 3) := by decide +kernel
theorem dX12_returns_78 : decode cX12_returns 78 = .ok (.iconst 0, 1) := by decide +kernel
theorem dX12_returns_79 : decode cX12_returns 79 = .ok (.iadd, 1) := by decide +kernel
theorem dX12_returns_80 : decode cX12_returns 80 = .ok (.istore_n 2, 1) := by decide +kernel
theorem dX12_returns_81 : decode cX12_returns 81 = .ok (.iinc 3 1, 3) := by decide +kernel
theorem dX12_returns_84 : decode cX12_returns 84 = .ok (.goto (-80), 3) := by decide +kernel
theorem dX12_returns_87 : decode cX12_returns 87 = .ok (.iload_n 2, 1) := by decide +kernel
theorem dX12_returns_88 : decode cX12_returns 88 = .ok (.ireturn, 1) := by decide +kernel
theorem dX12_ofDoc_0 : decode cX12_ofDoc 0 = .ok (.aload_n 0, 1) := by decide +kernel
theorem dX12_ofDoc_1 : decode cX12_ofDoc 1 = .ok (.iload_n 1, 1) := by decide +kernel
theorem dX12_ofDoc_2 : decode cX12_ofDoc 2 = .ok (.invokevirtual 256, 3) := by decide +kernel
theorem dX12_ofDoc_5 : decode cX12_ofDoc 5 = .ok (.ifCond .ne 6, 3) := by decide +kernel
theorem dX12_ofDoc_8 : decode cX12_ofDoc 8 = .ok (.bipush (-2), 2) := by decide +kernel
theorem dX12_ofDoc_10 : decode cX12_ofDoc 10 = .ok (.ireturn, 1) := by decide +kernel
theorem dX12_ofDoc_11 : decode cX12_ofDoc 11 = .ok (.iload_n 2, 1) := by decide +kernel
theorem dX12_ofDoc_12 : decode cX12_ofDoc 12 = .ok (.tableswitch 70 1 5 #[36, 42, 42, 58, 64], 36) := by decide +kernel
theorem dX12_ofDoc_48 : decode cX12_ofDoc 48 = .ok (.aload_n 0, 1) := by decide +kernel
theorem dX12_ofDoc_49 : decode cX12_ofDoc 49 = .ok (.iload_n 1, 1) := by decide +kernel
theorem dX12_ofDoc_50 : decode cX12_ofDoc 50 = .ok (.invokevirtual 259, 3) := by decide +kernel
theorem dX12_ofDoc_53 : decode cX12_ofDoc 53 = .ok (.ireturn, 1) := by decide +kernel
theorem dX12_ofDoc_54 : decode cX12_ofDoc 54 = .ok (.aload_n 0, 1) := by decide +kernel
theorem dX12_ofDoc_55 : decode cX12_ofDoc 55 = .ok (.iload_n 1, 1) := by decide +kernel
theorem dX12_ofDoc_56 : decode cX12_ofDoc 56 = .ok (.iload_n 2, 1) := by decide +kernel
theorem dX12_ofDoc_57 : decode cX12_ofDoc 57 = .ok (.iconst 3, 1) := by decide +kernel
theorem dX12_ofDoc_58 : decode cX12_ofDoc 58 = .ok (.if_icmp .ne 7, 3) := by decide +kernel
theorem dX12_ofDoc_61 : decode cX12_ofDoc 61 = .ok (.iconst 1, 1) := by decide +kernel
theorem dX12_ofDoc_62 : decode cX12_ofDoc 62 = .ok (.goto 4, 3) := by decide +kernel
theorem dX12_ofDoc_65 : decode cX12_ofDoc 65 = .ok (.iconst 0, 1) := by decide +kernel
theorem dX12_ofDoc_66 : decode cX12_ofDoc 66 = .ok (.invokevirtual 303, 3) := by decide +kernel
theorem dX12_ofDoc_69 : decode cX12_ofDoc 69 = .ok (.ireturn, 1) := by decide +kernel
theorem dX12_ofDoc_70 : decode cX12_ofDoc 70 = .ok (.aload_n 0, 1) := by decide +kernel
theorem dX12_ofDoc_71 : decode cX12_ofDoc 71 = .ok (.iload_n 1, 1) := by decide +kernel
theorem dX12_ofDoc_72 : decode cX12_ofDoc 72 = .ok (.invokevirtual 307, 3) := by decide +kernel
theorem dX12_ofDoc_75 : decode cX12_ofDoc 75 = .ok (.ireturn, 1) := by decide +kernel
theorem dX12_ofDoc_76 : decode cX12_ofDoc 76 = .ok (.aload_n 0, 1) := by decide +kernel
theorem dX12_ofDoc_77 : decode cX12_ofDoc 77 = .ok (.iload_n 1, 1) := by decide +kernel
theorem dX12_ofDoc_78 : decode cX12_ofDoc 78 = .ok (.invokevirtual 310, 3) := by decide +kernel
theorem dX12_ofDoc_81 : decode cX12_ofDoc 81 = .ok (.ireturn, 1) := by decide +kernel
theorem dX12_ofDoc_82 : decode cX12_ofDoc 82 = .ok (.bipush (-2), 2) := by decide +kernel
theorem dX12_ofDoc_84 : decode cX12_ofDoc 84 = .ok (.ireturn, 1) := by decide +kernel
theorem dX12_archive_0 : decode cX12_archive 0 = .ok (.aload_n 0, 1) := by decide +kernel
theorem dX12_archive_1 : decode cX12_archive 1 = .ok (.iconst 0, 1) := by decide +kernel
theorem dX12_archive_2 : decode cX12_archive 2 = .ok (.putfield 60, 3) := by decide +kernel
theorem dX12_archive_5 : decode cX12_archive 5 = .ok (.aload_n 0, 1) := by decide +kernel
theorem dX12_archive_6 : decode cX12_archive 6 = .ok (.iload_n 1, 1) := by decide +kernel
theorem dX12_archive_7 : decode cX12_archive 7 = .ok (.invokevirtual 313, 3) := by decide +kernel
theorem dX12_archive_10 : decode cX12_archive 10 = .ok (.ifCond .ne 6, 3) := by decide +kernel
theorem dX12_archive_13 : decode cX12_archive 13 = .ok (.bipush (-2), 2) := by decide +kernel
theorem dX12_archive_15 : decode cX12_archive 15 = .ok (.ireturn, 1) := by decide +kernel
theorem dX12_archive_16 : decode cX12_archive 16 = .ok (.iload_n 2, 1) := by decide +kernel
theorem dX12_archive_17 : decode cX12_archive 17 = .ok (.bipush 10, 2) := by decide +kernel
theorem dX12_archive_19 : decode cX12_archive 19 = .ok (.if_icmp .lt 16, 3) := by decide +kernel
theorem dX12_archive_22 : decode cX12_archive 22 = .ok (.aload_n 0, 1) := by decide +kernel
theorem dX12_archive_23 : decode cX12_archive 23 = .ok (.iload_n 2, 1) := by decide +kernel
theorem dX12_archive_24 : decode cX12_archive 24 = .ok (.bipush 10, 2) := by decide +kernel
theorem dX12_archive_26 : decode cX12_archive 26 = .ok (.irem, 1) := by decide +kernel
theorem dX12_archive_27 : decode cX12_archive 27 = .ok (.iload_n 2, 1) := by decide +kernel
theorem dX12_archive_28 : decode cX12_archive 28 = .ok (.bipush 10, 2) := by decide +kernel
theorem dX12_archive_30 : decode cX12_archive 30 = .ok (.idiv, 1) := by decide +kernel
theorem dX12_archive_31 : decode cX12_archive 31 = .ok (.invokevirtual 316, 3) := by decide +kernel
theorem dX12_archive_34 : decode cX12_archive 34 = .ok (.ireturn, 1) := by decide +kernel
theorem dX12_archive_35 : decode cX12_archive 35 = .ok (.iload_n 2, 1) := by decide +kernel
theorem dX12_archive_36 : decode cX12_archive 36 = .ok (.tableswitch 94 0 7 #[48, 55, 60, 65, 70, 75, 80, 85], 48) := by decide +kernel
theorem dX12_archive_84 : decode cX12_archive 84 = .ok (.aload_n 0, 1) := by decide +kernel
theorem dX12_archive_85 : decode cX12_archive 85 = .ok (.getfield 35, 3) := by decide +kernel
theorem dX12_archive_88 : decode cX12_archive 88 = .ok (.iconst 0, 1) := by decide +kernel
theorem dX12_archive_89 : decode cX12_archive 89 = .ok (.iaload, 1) := by decide +kernel
theorem dX12_archive_90 : decode cX12_archive 90 = .ok (.ireturn, 1) := by decide +kernel
theorem dX12_archive_91 : decode cX12_archive 91 = .ok (.aload_n 0, 1) := by decide +kernel
theorem dX12_archive_92 : decode cX12_archive 92 = .ok (.invokevirtual 319, 3) := by decide +kernel
theorem dX12_archive_95 : decode cX12_archive 95 = .ok (.ireturn, 1) := by decide +kernel
theorem dX12_archive_96 : decode cX12_archive 96 = .ok (.aload_n 0, 1) := by decide +kernel
theorem dX12_archive_97 : decode cX12_archive 97 = .ok (.invokevirtual 322, 3) := by decide +kernel
theorem dX12_archive_100 : decode cX12_archive 100 = .ok (.ireturn, 1) := by decide +kernel
theorem dX12_archive_101 : decode cX12_archive 101 = .ok (.aload_n 0, 1) := by decide +kernel
theorem dX12_archive_102 : decode cX12_archive 102 = .ok (.getfield 253, 3) := by decide +kernel
theorem dX12_archive_105 : decode cX12_archive 105 = .ok (.ireturn, 1) := by decide +kernel
theorem dX12_archive_106 : decode cX12_archive 106 = .ok (.aload_n 0, 1) := by decide +kernel
theorem dX12_archive_107 : decode cX12_archive 107 = .ok (.invokevirtual 325, 3) := by decide +kernel
theorem dX12_archive_110 : decode cX12_archive 110 = .ok (.ireturn, 1) := by decide +kernel
theorem dX12_archive_111 : decode cX12_archive 111 = .ok (.aload_n 0, 1) := by decide +kernel
theorem dX12_archive_112 : decode cX12_archive 112 = .ok (.invokevirtual 328, 3) := by decide +kernel
theorem dX12_archive_115 : decode cX12_archive 115 = .ok (.ireturn, 1) := by decide +kernel
theorem dX12_archive_116 : decode cX12_archive 116 = .ok (.aload_n 0, 1) := by decide +kernel
theorem dX12_archive_117 : decode cX12_archive 117 = .ok (.invokevirtual 331, 3) := by decide +kernel
theorem dX12_archive_120 : decode cX12_archive 120 = .ok (.ireturn, 1) := by decide +kernel
theorem dX12_archive_121 : decode cX12_archive 121 = .ok (.aload_n 0, 1) := by decide +kernel
theorem dX12_archive_122 : decode cX12_archive 122 = .ok (.invokevirtual 334, 3) := by decide +kernel
theorem dX12_archive_125 : decode cX12_archive 125 = .ok (.aload_n 0, 1) := by decide +kernel
theorem dX12_archive_126 : decode cX12_archive 126 = .ok (.getfield 337, 3) := by decide +kernel
theorem dX12_archive_129 : decode cX12_archive 129 = .ok (.ireturn, 1) := by decide +kernel
theorem dX12_archive_130 : decode cX12_archive 130 = .ok (.bipush (-2), 2) := by decide +kernel
theorem dX12_archive_132 : decode cX12_archive 132 = .ok (.ireturn, 1) := by decide +kernel
theorem dX12_fresh_0 : decode cX12_fresh 0 = .ok (.iconst 0, 1) := by decide +kernel
theorem dX12_fresh_1 : decode cX12_fresh 1 = .ok (.istore_n 3, 1) := by decide +kernel
theorem dX12_fresh_2 : decode cX12_fresh 2 = .ok (.iconst 0, 1) := by decide +kernel
theorem dX12_fresh_3 : decode cX12_fresh 3 = .ok (.istore 4, 2) := by decide +kernel
theorem dX12_fresh_5 : decode cX12_fresh 5 = .ok (.iload 4, 2) := by decide +kernel
theorem dX12_fresh_7 : decode cX12_fresh 7 = .ok (.aload_n 0, 1) := by decide +kernel
theorem dX12_fresh_8 : decode cX12_fresh 8 = .ok (.iload_n 1, 1) := by decide +kernel
theorem dX12_fresh_9 : decode cX12_fresh 9 = .ok (.iload_n 2, 1) := by decide +kernel
theorem dX12_fresh_10 : decode cX12_fresh 10 = .ok (.invokevirtual 269, 3) := by decide +kernel
theorem dX12_fresh_13 : decode cX12_fresh 13 = .ok (.if_icmp .ge 38, 3) := by decide +kernel
theorem dX12_fresh_16 : decode cX12_fresh 16 = .ok (.iload_n 3, 1) := by decide +kernel
theorem dX12_fresh_17 : decode cX12_fresh 17 = .ok (.aload_n 0, 1) := by decide +kernel
theorem dX12_fresh_18 : decode cX12_fresh 18 = .ok (.aload_n 0, 1) := by decide +kernel
theorem dX12_fresh_19 : decode cX12_fresh 19 = .ok (.iload_n 1, 1) := by decide +kernel
theorem dX12_fresh_20 : decode cX12_fresh 20 = .ok (.iload_n 2, 1) := by decide +kernel
theorem dX12_fresh_21 : decode cX12_fresh 21 = .ok (.iload 4, 2) := by decide +kernel
theorem dX12_fresh_23 : decode cX12_fresh 23 = .ok (.invokevirtual 262, 3) := by decide +kernel
theorem dX12_fresh_26 : decode cX12_fresh 26 = .ok (.invokevirtual 278, 3) := by decide +kernel
theorem dX12_fresh_29 : decode cX12_fresh 29 = .ok (.iconst 1, 1) := by decide +kernel
theorem dX12_fresh_30 : decode cX12_fresh 30 = .ok (.iload_n 2, 1) := by decide +kernel
theorem dX12_fresh_31 : decode cX12_fresh 31 = .ok (.ishl, 1) := by decide +kernel
theorem dX12_fresh_32 : decode cX12_fresh 32 = .ok (.iconst 1, 1) := by decide +kernel
theorem dX12_fresh_33 : decode cX12_fresh 33 = .ok (.isub, 1) := by decide +kernel
theorem dX12_fresh_34 : decode cX12_fresh 34 = .ok (.iand, 1) := by decide +kernel
theorem dX12_fresh_35 : decode cX12_fresh 35 = .ok (.ifCond .ne 7, 3) := by decide +kernel
theorem dX12_fresh_38 : decode cX12_fresh 38 = .ok (.iconst 1, 1) := by decide +kernel
theorem dX12_fresh_39 : decode cX12_fresh 39 = .ok (.goto 4, 3) := by decide +kernel
theorem dX12_fresh_42 : decode cX12_fresh 42 = .ok (.iconst 0, 1) := by decide +kernel
theorem dX12_fresh_43 : decode cX12_fresh 43 = .ok (.iadd, 1) := by decide +kernel
theorem dX12_fresh_44 : decode cX12_fresh 44 = .ok (.istore_n 3, 1) := by decide +kernel
theorem dX12_fresh_45 : decode cX12_fresh 45 = .ok (.iinc 4 1, 3) := by decide +kernel
theorem dX12_fresh_48 : decode cX12_fresh 48 = .ok (.goto (-43), 3) := by decide +kernel
theorem dX12_fresh_51 : decode cX12_fresh 51 = .ok (.iload_n 3, 1) := by decide +kernel
theorem dX12_fresh_52 : decode cX12_fresh 52 = .ok (.ireturn, 1) := by decide +kernel
theorem dX12_lost_0 : decode cX12_lost 0 = .ok (.iconst 0, 1) := by decide +kernel
theorem dX12_lost_1 : decode cX12_lost 1 = .ok (.istore_n 3, 1) := by decide +kernel
theorem dX12_lost_2 : decode cX12_lost 2 = .ok (.iconst 0, 1) := by decide +kernel
theorem dX12_lost_3 : decode cX12_lost 3 = .ok (.istore 4, 2) := by decide +kernel
theorem dX12_lost_5 : decode cX12_lost 5 = .ok (.iload_n 2, 1) := by decide +kernel
theorem dX12_lost_6 : decode cX12_lost 6 = .ok (.ifCond .le 50, 3) := by decide +kernel
theorem dX12_lost_9 : decode cX12_lost 9 = .ok (.iload 4, 2) := by decide +kernel
theorem dX12_lost_11 : decode cX12_lost 11 = .ok (.aload_n 0, 1) := by decide +kernel
theorem dX12_lost_12 : decode cX12_lost 12 = .ok (.iload_n 1, 1) := by decide +kernel
theorem dX12_lost_13 : decode cX12_lost 13 = .ok (.iload_n 2, 1) := by decide +kernel
theorem dX12_lost_14 : decode cX12_lost 14 = .ok (.iconst 1, 1) := by decide +kernel
theorem dX12_lost_15 : decode cX12_lost 15 = .ok (.isub, 1) := by decide +kernel
theorem dX12_lost_16 : decode cX12_lost 16 = .ok (.invokevirtual 269, 3) := by decide +kernel
theorem dX12_lost_19 : decode cX12_lost 19 = .ok (.if_icmp .ge 37, 3) := by decide +kernel
theorem dX12_lost_22 : decode cX12_lost 22 = .ok (.iload_n 3, 1) := by decide +kernel
theorem dX12_lost_23 : decode cX12_lost 23 = .ok (.aload_n 0, 1) := by decide +kernel
theorem dX12_lost_24 : decode cX12_lost 24 = .ok (.iload_n 1, 1) := by decide +kernel
theorem dX12_lost_25 : decode cX12_lost 25 = .ok (.iload_n 2, 1) := by decide +kernel
theorem dX12_lost_26 : decode cX12_lost 26 = .ok (.aload_n 0, 1) := by decide +kernel
theorem dX12_lost_27 : decode cX12_lost 27 = .ok (.iload_n 1, 1) := by decide +kernel
theorem dX12_lost_28 : decode cX12_lost 28 = .ok (.iload_n 2, 1) := by decide +kernel
theorem dX12_lost_29 : decode cX12_lost 29 = .ok (.iconst 1, 1) := by decide +kernel
theorem dX12_lost_30 : decode cX12_lost 30 = .ok (.isub, 1) := by decide +kernel
theorem dX12_lost_31 : decode cX12_lost 31 = .ok (.iload 4, 2) := by decide +kernel
theorem dX12_lost_33 : decode cX12_lost 33 = .ok (.invokevirtual 262, 3) := by decide +kernel
theorem dX12_lost_36 : decode cX12_lost 36 = .ok (.invokevirtual 272, 3) := by decide +kernel
theorem dX12_lost_39 : decode cX12_lost 39 = .ok (.iconst (-1), 1) := by decide +kernel
theorem dX12_lost_40 : decode cX12_lost 40 = .ok (.if_icmp .ne 7, 3) := by decide +kernel
theorem dX12_lost_43 : decode cX12_lost 43 = .ok (.iconst 1, 1) := by decide +kernel
theorem dX12_lost_44 : decode cX12_lost 44 = .ok (.goto 4, 3) := by decide +kernel
theorem dX12_lost_47 : decode cX12_lost 47 = .ok (.iconst 0, 1) := by decide +kernel
theorem dX12_lost_48 : decode cX12_lost 48 = .ok (.iadd, 1) := by decide +kernel
theorem dX12_lost_49 : decode cX12_lost 49 = .ok (.istore_n 3, 1) := by decide +kernel
theorem dX12_lost_50 : decode cX12_lost 50 = .ok (.iinc 4 1, 3) := by decide +kernel
theorem dX12_lost_53 : decode cX12_lost 53 = .ok (.goto (-48), 3) := by decide +kernel
theorem dX12_lost_56 : decode cX12_lost 56 = .ok (.iload_n 3, 1) := by decide +kernel
theorem dX12_lost_57 : decode cX12_lost 57 = .ok (.ireturn, 1) := by decide +kernel
theorem dX12_turned_0 : decode cX12_turned 0 = .ok (.iconst 0, 1) := by decide +kernel
theorem dX12_turned_1 : decode cX12_turned 1 = .ok (.istore_n 3, 1) := by decide +kernel
theorem dX12_turned_2 : decode cX12_turned 2 = .ok (.iconst 0, 1) := by decide +kernel
theorem dX12_turned_3 : decode cX12_turned 3 = .ok (.istore 4, 2) := by decide +kernel
theorem dX12_turned_5 : decode cX12_turned 5 = .ok (.iload_n 2, 1) := by decide +kernel
theorem dX12_turned_6 : decode cX12_turned 6 = .ok (.ifCond .le 101, 3) := by decide +kernel
theorem dX12_turned_9 : decode cX12_turned 9 = .ok (.iload 4, 2) := by decide +kernel
theorem dX12_turned_11 : decode cX12_turned 11 = .ok (.aload_n 0, 1) := by decide +kernel
theorem dX12_turned_12 : decode cX12_turned 12 = .ok (.iload_n 1, 1) := by decide +kernel
theorem dX12_turned_13 : decode cX12_turned 13 = .ok (.iload_n 2, 1) := by decide +kernel
theorem dX12_turned_14 : decode cX12_turned 14 = .ok (.iconst 1, 1) := by decide +kernel
theorem dX12_turned_15 : decode cX12_turned 15 = .ok (.isub, 1) := by decide +kernel
theorem dX12_turned_16 : decode cX12_turned 16 = .ok (.invokevirtual 269, 3) := by decide +kernel
theorem dX12_turned_19 : decode cX12_turned 19 = .ok (.if_icmp .ge 88, 3) := by decide +kernel
theorem dX12_turned_22 : decode cX12_turned 22 = .ok (.iconst 0, 1) := by decide +kernel
theorem dX12_turned_23 : decode cX12_turned 23 = .ok (.istore 5, 2) := by decide +kernel
theorem dX12_turned_25 : decode cX12_turned 25 = .ok (.iload 5, 2) := by decide +kernel
theorem dX12_turned_27 : decode cX12_turned 27 = .ok (.iload 4, 2) := by decide +kernel
theorem dX12_turned_29 : decode cX12_turned 29 = .ok (.if_icmp .ge 72, 3) := by decide +kernel
theorem dX12_turned_32 : decode cX12_turned 32 = .ok (.aload_n 0, 1) := by decide +kernel
theorem dX12_turned_33 : decode cX12_turned 33 = .ok (.iload_n 1, 1) := by decide +kernel
theorem dX12_turned_34 : decode cX12_turned 34 = .ok (.iload_n 2, 1) := by decide +kernel
theorem dX12_turned_35 : decode cX12_turned 35 = .ok (.aload_n 0, 1) := by decide +kernel
theorem dX12_turned_36 : decode cX12_turned 36 = .ok (.iload_n 1, 1) := by decide +kernel
theorem dX12_turned_37 : decode cX12_turned 37 = .ok (.iload_n 2, 1) := by decide +kernel
theorem dX12_turned_38 : decode cX12_turned 38 = .ok (.iconst 1, 1) := by decide +kernel
theorem dX12_turned_39 : decode cX12_turned 39 = .ok (.isub, 1) := by decide +kernel
theorem dX12_turned_40 : decode cX12_turned 40 = .ok (.iload 5, 2) := by decide +kernel
theorem dX12_turned_42 : decode cX12_turned 42 = .ok (.invokevirtual 262, 3) := by decide +kernel
theorem dX12_turned_45 : decode cX12_turned 45 = .ok (.invokevirtual 272, 3) := by decide +kernel
theorem dX12_turned_48 : decode cX12_turned 48 = .ok (.istore 6, 2) := by decide +kernel
theorem dX12_turned_50 : decode cX12_turned 50 = .ok (.aload_n 0, 1) := by decide +kernel
theorem dX12_turned_51 : decode cX12_turned 51 = .ok (.iload_n 1, 1) := by decide +kernel
theorem dX12_turned_52 : decode cX12_turned 52 = .ok (.iload_n 2, 1) := by decide +kernel
theorem dX12_turned_53 : decode cX12_turned 53 = .ok (.aload_n 0, 1) := by decide +kernel
theorem dX12_turned_54 : decode cX12_turned 54 = .ok (.iload_n 1, 1) := by decide +kernel
theorem dX12_turned_55 : decode cX12_turned 55 = .ok (.iload_n 2, 1) := by decide +kernel
theorem dX12_turned_56 : decode cX12_turned 56 = .ok (.iconst 1, 1) := by decide +kernel
theorem dX12_turned_57 : decode cX12_turned 57 = .ok (.isub, 1) := by decide +kernel
theorem dX12_turned_58 : decode cX12_turned 58 = .ok (.iload 4, 2) := by decide +kernel
theorem dX12_turned_60 : decode cX12_turned 60 = .ok (.invokevirtual 262, 3) := by decide +kernel
theorem dX12_turned_63 : decode cX12_turned 63 = .ok (.invokevirtual 272, 3) := by decide +kernel
theorem dX12_turned_66 : decode cX12_turned 66 = .ok (.istore 7, 2) := by decide +kernel
theorem dX12_turned_68 : decode cX12_turned 68 = .ok (.iload_n 3, 1) := by decide +kernel
theorem dX12_turned_69 : decode cX12_turned 69 = .ok (.iload 6, 2) := by decide +kernel
theorem dX12_turned_71 : decode cX12_turned 71 = .ok (.iconst (-1), 1) := by decide +kernel
theorem dX12_turned_72 : decode cX12_turned 72 = .ok (.if_icmp .eq 20, 3) := by decide +kernel
theorem dX12_turned_75 : decode cX12_turned 75 = .ok (.iload 7, 2) := by decide +kernel
theorem dX12_turned_77 : decode cX12_turned 77 = .ok (.iconst (-1), 1) := by decide +kernel
theorem dX12_turned_78 : decode cX12_turned 78 = .ok (.if_icmp .eq 14, 3) := by decide +kernel
theorem dX12_turned_81 : decode cX12_turned 81 = .ok (.iload 7, 2) := by decide +kernel
theorem dX12_turned_83 : decode cX12_turned 83 = .ok (.iload 6, 2) := by decide +kernel
theorem dX12_turned_85 : decode cX12_turned 85 = .ok (.if_icmp .ge 7, 3) := by decide +kernel
theorem dX12_turned_88 : decode cX12_turned 88 = .ok (.iconst 1, 1) := by decide +kernel
theorem dX12_turned_89 : decode cX12_turned 89 = .ok (.goto 4, 3) := by decide +kernel
theorem dX12_turned_92 : decode cX12_turned 92 = .ok (.iconst 0, 1) := by decide +kernel
theorem dX12_turned_93 : decode cX12_turned 93 = .ok (.iadd, 1) := by decide +kernel
theorem dX12_turned_94 : decode cX12_turned 94 = .ok (.istore_n 3, 1) := by decide +kernel
theorem dX12_turned_95 : decode cX12_turned 95 = .ok (.iinc 5 1, 3) := by decide +kernel
theorem dX12_turned_98 : decode cX12_turned 98 = .ok (.goto (-73), 3) := by decide +kernel
theorem dX12_turned_101 : decode cX12_turned 101 = .ok (.iinc 4 1, 3) := by decide +kernel
theorem dX12_turned_104 : decode cX12_turned 104 = .ok (.goto (-99), 3) := by decide +kernel
theorem dX12_turned_107 : decode cX12_turned 107 = .ok (.iload_n 3, 1) := by decide +kernel
theorem dX12_turned_108 : decode cX12_turned 108 = .ok (.ireturn, 1) := by decide +kernel
theorem dX12_oldest_0 : decode cX12_oldest 0 = .ok (.iconst (-1), 1) := by decide +kernel
theorem dX12_oldest_1 : decode cX12_oldest 1 = .ok (.istore_n 3, 1) := by decide +kernel
theorem dX12_oldest_2 : decode cX12_oldest 2 = .ok (.iconst 0, 1) := by decide +kernel
theorem dX12_oldest_3 : decode cX12_oldest 3 = .ok (.istore 4, 2) := by decide +kernel
theorem dX12_oldest_5 : decode cX12_oldest 5 = .ok (.iconst 0, 1) := by decide +kernel
theorem dX12_oldest_6 : decode cX12_oldest 6 = .ok (.istore 5, 2) := by decide +kernel
theorem dX12_oldest_8 : decode cX12_oldest 8 = .ok (.iload 5, 2) := by decide +kernel
theorem dX12_oldest_10 : decode cX12_oldest 10 = .ok (.aload_n 0, 1) := by decide +kernel
theorem dX12_oldest_11 : decode cX12_oldest 11 = .ok (.iload_n 1, 1) := by decide +kernel
theorem dX12_oldest_12 : decode cX12_oldest 12 = .ok (.iload_n 2, 1) := by decide +kernel
theorem dX12_oldest_13 : decode cX12_oldest 13 = .ok (.invokevirtual 269, 3) := by decide +kernel
theorem dX12_oldest_16 : decode cX12_oldest 16 = .ok (.if_icmp .ge 55, 3) := by decide +kernel
theorem dX12_oldest_19 : decode cX12_oldest 19 = .ok (.aload_n 0, 1) := by decide +kernel
theorem dX12_oldest_20 : decode cX12_oldest 20 = .ok (.aload_n 0, 1) := by decide +kernel
theorem dX12_oldest_21 : decode cX12_oldest 21 = .ok (.iload_n 1, 1) := by decide +kernel
theorem dX12_oldest_22 : decode cX12_oldest 22 = .ok (.iload_n 2, 1) := by decide +kernel
theorem dX12_oldest_23 : decode cX12_oldest 23 = .ok (.iload 5, 2) := by decide +kernel
theorem dX12_oldest_25 : decode cX12_oldest 25 = .ok (.invokevirtual 262, 3) := by decide +kernel
theorem dX12_oldest_28 : decode cX12_oldest 28 = .ok (.invokevirtual 278, 3) := by decide +kernel
theorem dX12_oldest_31 : decode cX12_oldest 31 = .ok (.iconst 2, 1) := by decide +kernel
theorem dX12_oldest_32 : decode cX12_oldest 32 = .ok (.iload_n 2, 1) := by decide +kernel
theorem dX12_oldest_33 : decode cX12_oldest 33 = .ok (.ishl, 1) := by decide +kernel
theorem dX12_oldest_34 : decode cX12_oldest 34 = .ok (.iconst 1, 1) := by decide +kernel
theorem dX12_oldest_35 : decode cX12_oldest 35 = .ok (.isub, 1) := by decide +kernel
theorem dX12_oldest_36 : decode cX12_oldest 36 = .ok (.iand, 1) := by decide +kernel
theorem dX12_oldest_37 : decode cX12_oldest 37 = .ok (.invokestatic 300, 3) := by decide +kernel
theorem dX12_oldest_40 : decode cX12_oldest 40 = .ok (.istore 6, 2) := by decide +kernel
theorem dX12_oldest_42 : decode cX12_oldest 42 = .ok (.iload 6, 2) := by decide +kernel
theorem dX12_oldest_44 : decode cX12_oldest 44 = .ok (.iload 4, 2) := by decide +kernel
theorem dX12_oldest_46 : decode cX12_oldest 46 = .ok (.if_icmp .le 8, 3) := by decide +kernel
theorem dX12_oldest_49 : decode cX12_oldest 49 = .ok (.iload 5, 2) := by decide +kernel
theorem dX12_oldest_51 : decode cX12_oldest 51 = .ok (.goto 4, 3) := by decide +kernel
theorem dX12_oldest_54 : decode cX12_oldest 54 = .ok (.iload_n 3, 1) := by decide +kernel
theorem dX12_oldest_55 : decode cX12_oldest 55 = .ok (.istore_n 3, 1) := by decide +kernel
theorem dX12_oldest_56 : decode cX12_oldest 56 = .ok (.iload 4, 2) := by decide +kernel
theorem dX12_oldest_58 : decode cX12_oldest 58 = .ok (.iload 6, 2) := by decide +kernel
theorem dX12_oldest_60 : decode cX12_oldest 60 = .ok (.invokestatic 297, 3) := by decide +kernel
theorem dX12_oldest_63 : decode cX12_oldest 63 = .ok (.istore 4, 2) := by decide +kernel
theorem dX12_oldest_65 : decode cX12_oldest 65 = .ok (.iinc 5 1, 3) := by decide +kernel
theorem dX12_oldest_68 : decode cX12_oldest 68 = .ok (.goto (-60), 3) := by decide +kernel
theorem dX12_oldest_71 : decode cX12_oldest 71 = .ok (.iload_n 3, 1) := by decide +kernel
theorem dX12_oldest_72 : decode cX12_oldest 72 = .ok (.ireturn, 1) := by decide +kernel
theorem dX12_version_0 : decode cX12_version 0 = .ok (.aload_n 0, 1) := by decide +kernel
theorem dX12_version_1 : decode cX12_version 1 = .ok (.iconst 0, 1) := by decide +kernel
theorem dX12_version_2 : decode cX12_version 2 = .ok (.putfield 60, 3) := by decide +kernel
theorem dX12_version_5 : decode cX12_version 5 = .ok (.aload_n 0, 1) := by decide +kernel
theorem dX12_version_6 : decode cX12_version 6 = .ok (.iload_n 1, 1) := by decide +kernel
theorem dX12_version_7 : decode cX12_version 7 = .ok (.invokevirtual 313, 3) := by decide +kernel
theorem dX12_version_10 : decode cX12_version 10 = .ok (.ifCond .eq 12, 3) := by decide +kernel
theorem dX12_version_13 : decode cX12_version 13 = .ok (.aload_n 0, 1) := by decide +kernel
theorem dX12_version_14 : decode cX12_version 14 = .ok (.iload_n 2, 1) := by decide +kernel
theorem dX12_version_15 : decode cX12_version 15 = .ok (.iload_n 3, 1) := by decide +kernel
theorem dX12_version_16 : decode cX12_version 16 = .ok (.invokevirtual 284, 3) := by decide +kernel
theorem dX12_version_19 : decode cX12_version 19 = .ok (.ifCond .ne 5, 3) := by decide +kernel
theorem dX12_version_22 : decode cX12_version 22 = .ok (.iconst (-1), 1) := by decide +kernel
theorem dX12_version_23 : decode cX12_version 23 = .ok (.ireturn, 1) := by decide +kernel
theorem dX12_version_24 : decode cX12_version 24 = .ok (.iload 4, 2) := by decide +kernel
theorem dX12_version_26 : decode cX12_version 26 = .ok (.bipush 10, 2) := by decide +kernel
theorem dX12_version_28 : decode cX12_version 28 = .ok (.if_icmp .lt 33, 3) := by decide +kernel
theorem dX12_version_31 : decode cX12_version 31 = .ok (.iload 4, 2) := by decide +kernel
theorem dX12_version_33 : decode cX12_version 33 = .ok (.bipush 10, 2) := by decide +kernel
theorem dX12_version_35 : decode cX12_version 35 = .ok (.isub, 1) := by decide +kernel
theorem dX12_version_36 : decode cX12_version 36 = .ok (.aload_n 0, 1) := by decide +kernel
theorem dX12_version_37 : decode cX12_version 37 = .ok (.iload_n 2, 1) := by decide +kernel
theorem dX12_version_38 : decode cX12_version 38 = .ok (.iload_n 3, 1) := by decide +kernel
theorem dX12_version_39 : decode cX12_version 39 = .ok (.invokevirtual 269, 3) := by decide +kernel
theorem dX12_version_42 : decode cX12_version 42 = .ok (.if_icmp .ge 17, 3) := by decide +kernel
theorem dX12_version_45 : decode cX12_version 45 = .ok (.aload_n 0, 1) := by decide +kernel
theorem dX12_version_46 : decode cX12_version 46 = .ok (.iload_n 2, 1) := by decide +kernel
theorem dX12_version_47 : decode cX12_version 47 = .ok (.iload_n 3, 1) := by decide +kernel
theorem dX12_version_48 : decode cX12_version 48 = .ok (.iload 4, 2) := by decide +kernel
theorem dX12_version_50 : decode cX12_version 50 = .ok (.bipush 10, 2) := by decide +kernel
theorem dX12_version_52 : decode cX12_version 52 = .ok (.isub, 1) := by decide +kernel
theorem dX12_version_53 : decode cX12_version 53 = .ok (.invokevirtual 275, 3) := by decide +kernel
theorem dX12_version_56 : decode cX12_version 56 = .ok (.goto 4, 3) := by decide +kernel
theorem dX12_version_59 : decode cX12_version 59 = .ok (.iconst (-1), 1) := by decide +kernel
theorem dX12_version_60 : decode cX12_version 60 = .ok (.ireturn, 1) := by decide +kernel
theorem dX12_version_61 : decode cX12_version 61 = .ok (.iload 4, 2) := by decide +kernel
theorem dX12_version_63 : decode cX12_version 63 = .ok (.tableswitch 86 0 5 #[37, 44, 58, 65, 72, 79], 37) := by decide +kernel
theorem dX12_version_100 : decode cX12_version 100 = .ok (.aload_n 0, 1) := by decide +kernel
theorem dX12_version_101 : decode cX12_version 101 = .ok (.iload_n 2, 1) := by decide +kernel
theorem dX12_version_102 : decode cX12_version 102 = .ok (.iload_n 3, 1) := by decide +kernel
theorem dX12_version_103 : decode cX12_version 103 = .ok (.invokevirtual 269, 3) := by decide +kernel
theorem dX12_version_106 : decode cX12_version 106 = .ok (.ireturn, 1) := by decide +kernel
theorem dX12_version_107 : decode cX12_version 107 = .ok (.aload_n 0, 1) := by decide +kernel
theorem dX12_version_108 : decode cX12_version 108 = .ok (.getfield 35, 3) := by decide +kernel
theorem dX12_version_111 : decode cX12_version 111 = .ok (.bipush 6, 2) := by decide +kernel
theorem dX12_version_113 : decode cX12_version 113 = .ok (.iload_n 2, 1) := by decide +kernel
theorem dX12_version_114 : decode cX12_version 114 = .ok (.iload_n 3, 1) := by decide +kernel
theorem dX12_version_115 : decode cX12_version 115 = .ok (.invokestatic 146, 3) := by decide +kernel
theorem dX12_version_118 : decode cX12_version 118 = .ok (.iadd, 1) := by decide +kernel
theorem dX12_version_119 : decode cX12_version 119 = .ok (.iaload, 1) := by decide +kernel
theorem dX12_version_120 : decode cX12_version 120 = .ok (.ireturn, 1) := by decide +kernel
theorem dX12_version_121 : decode cX12_version 121 = .ok (.aload_n 0, 1) := by decide +kernel
theorem dX12_version_122 : decode cX12_version 122 = .ok (.iload_n 2, 1) := by decide +kernel
theorem dX12_version_123 : decode cX12_version 123 = .ok (.iload_n 3, 1) := by decide +kernel
theorem dX12_version_124 : decode cX12_version 124 = .ok (.invokevirtual 340, 3) := by decide +kernel
theorem dX12_version_127 : decode cX12_version 127 = .ok (.ireturn, 1) := by decide +kernel
theorem dX12_version_128 : decode cX12_version 128 = .ok (.aload_n 0, 1) := by decide +kernel
theorem dX12_version_129 : decode cX12_version 129 = .ok (.iload_n 2, 1) := by decide +kernel
theorem dX12_version_130 : decode cX12_version 130 = .ok (.iload_n 3, 1) := by decide +kernel
theorem dX12_version_131 : decode cX12_version 131 = .ok (.invokevirtual 343, 3) := by decide +kernel
theorem dX12_version_134 : decode cX12_version 134 = .ok (.ireturn, 1) := by decide +kernel
theorem dX12_version_135 : decode cX12_version 135 = .ok (.aload_n 0, 1) := by decide +kernel
theorem dX12_version_136 : decode cX12_version 136 = .ok (.iload_n 2, 1) := by decide +kernel
theorem dX12_version_137 : decode cX12_version 137 = .ok (.iload_n 3, 1) := by decide +kernel
theorem dX12_version_138 : decode cX12_version 138 = .ok (.invokevirtual 346, 3) := by decide +kernel
theorem dX12_version_141 : decode cX12_version 141 = .ok (.ireturn, 1) := by decide +kernel
theorem dX12_version_142 : decode cX12_version 142 = .ok (.aload_n 0, 1) := by decide +kernel
theorem dX12_version_143 : decode cX12_version 143 = .ok (.iload_n 2, 1) := by decide +kernel
theorem dX12_version_144 : decode cX12_version 144 = .ok (.iload_n 3, 1) := by decide +kernel
theorem dX12_version_145 : decode cX12_version 145 = .ok (.invokevirtual 349, 3) := by decide +kernel
theorem dX12_version_148 : decode cX12_version 148 = .ok (.ireturn, 1) := by decide +kernel
theorem dX12_version_149 : decode cX12_version 149 = .ok (.iconst (-1), 1) := by decide +kernel
theorem dX12_version_150 : decode cX12_version 150 = .ok (.ireturn, 1) := by decide +kernel
theorem dX12_life_0 : decode cX12_life 0 = .ok (.aload_n 0, 1) := by decide +kernel
theorem dX12_life_1 : decode cX12_life 1 = .ok (.iconst 0, 1) := by decide +kernel
theorem dX12_life_2 : decode cX12_life 2 = .ok (.putfield 60, 3) := by decide +kernel
theorem dX12_life_5 : decode cX12_life 5 = .ok (.aload_n 0, 1) := by decide +kernel
theorem dX12_life_6 : decode cX12_life 6 = .ok (.iload_n 1, 1) := by decide +kernel
theorem dX12_life_7 : decode cX12_life 7 = .ok (.invokevirtual 313, 3) := by decide +kernel
theorem dX12_life_10 : decode cX12_life 10 = .ok (.ifCond .eq 29, 3) := by decide +kernel
theorem dX12_life_13 : decode cX12_life 13 = .ok (.aload_n 0, 1) := by decide +kernel
theorem dX12_life_14 : decode cX12_life 14 = .ok (.iload_n 2, 1) := by decide +kernel
theorem dX12_life_15 : decode cX12_life 15 = .ok (.iload_n 3, 1) := by decide +kernel
theorem dX12_life_16 : decode cX12_life 16 = .ok (.invokevirtual 284, 3) := by decide +kernel
theorem dX12_life_19 : decode cX12_life 19 = .ok (.ifCond .eq 20, 3) := by decide +kernel
theorem dX12_life_22 : decode cX12_life 22 = .ok (.iload 4, 2) := by decide +kernel
theorem dX12_life_24 : decode cX12_life 24 = .ok (.iconst 0, 1) := by decide +kernel
theorem dX12_life_25 : decode cX12_life 25 = .ok (.aload_n 0, 1) := by decide +kernel
theorem dX12_life_26 : decode cX12_life 26 = .ok (.iload_n 2, 1) := by decide +kernel
theorem dX12_life_27 : decode cX12_life 27 = .ok (.iload_n 3, 1) := by decide +kernel
theorem dX12_life_28 : decode cX12_life 28 = .ok (.invokevirtual 269, 3) := by decide +kernel
theorem dX12_life_31 : decode cX12_life 31 = .ok (.iconst 1, 1) := by decide +kernel
theorem dX12_life_32 : decode cX12_life 32 = .ok (.isub, 1) := by decide +kernel
theorem dX12_life_33 : decode cX12_life 33 = .ok (.invokestatic 72, 3) := by decide +kernel
theorem dX12_life_36 : decode cX12_life 36 = .ok (.ifCond .ne 5, 3) := by decide +kernel
theorem dX12_life_39 : decode cX12_life 39 = .ok (.iconst (-1), 1) := by decide +kernel
theorem dX12_life_40 : decode cX12_life 40 = .ok (.ireturn, 1) := by decide +kernel
theorem dX12_life_41 : decode cX12_life 41 = .ok (.aload_n 0, 1) := by decide +kernel
theorem dX12_life_42 : decode cX12_life 42 = .ok (.aload_n 0, 1) := by decide +kernel
theorem dX12_life_43 : decode cX12_life 43 = .ok (.iload_n 2, 1) := by decide +kernel
theorem dX12_life_44 : decode cX12_life 44 = .ok (.iload_n 3, 1) := by decide +kernel
theorem dX12_life_45 : decode cX12_life 45 = .ok (.iload 4, 2) := by decide +kernel
theorem dX12_life_47 : decode cX12_life 47 = .ok (.invokevirtual 262, 3) := by decide +kernel
theorem dX12_life_50 : decode cX12_life 50 = .ok (.invokevirtual 278, 3) := by decide +kernel
theorem dX12_life_53 : decode cX12_life 53 = .ok (.istore 6, 2) := by decide +kernel
theorem dX12_life_55 : decode cX12_life 55 = .ok (.iload 5, 2) := by decide +kernel
theorem dX12_life_57 : decode cX12_life 57 = .ok (.tableswitch 55 0 3 #[31, 37, 43, 49], 31) := by decide +kernel
theorem dX12_life_88 : decode cX12_life 88 = .ok (.iload 6, 2) := by decide +kernel
theorem dX12_life_90 : decode cX12_life 90 = .ok (.invokestatic 352, 3) := by decide +kernel
theorem dX12_life_93 : decode cX12_life 93 = .ok (.ireturn, 1) := by decide +kernel
theorem dX12_life_94 : decode cX12_life 94 = .ok (.iload 6, 2) := by decide +kernel
theorem dX12_life_96 : decode cX12_life 96 = .ok (.invokestatic 355, 3) := by decide +kernel
theorem dX12_life_99 : decode cX12_life 99 = .ok (.ireturn, 1) := by decide +kernel
theorem dX12_life_100 : decode cX12_life 100 = .ok (.iload 6, 2) := by decide +kernel
theorem dX12_life_102 : decode cX12_life 102 = .ok (.invokestatic 300, 3) := by decide +kernel
theorem dX12_life_105 : decode cX12_life 105 = .ok (.ireturn, 1) := by decide +kernel
theorem dX12_life_106 : decode cX12_life 106 = .ok (.iload 6, 2) := by decide +kernel
theorem dX12_life_108 : decode cX12_life 108 = .ok (.invokestatic 281, 3) := by decide +kernel
theorem dX12_life_111 : decode cX12_life 111 = .ok (.ireturn, 1) := by decide +kernel
theorem dX12_life_112 : decode cX12_life 112 = .ok (.iconst (-1), 1) := by decide +kernel
theorem dX12_life_113 : decode cX12_life 113 = .ok (.ireturn, 1) := by decide +kernel
theorem dX12_widened_0 : decode cX12_widened 0 = .ok (.iload_n 0, 1) := by decide +kernel
theorem dX12_widened_1 : decode cX12_widened 1 = .ok (.istore_n 1, 1) := by decide +kernel
theorem dX12_widened_2 : decode cX12_widened 2 = .ok (.iload_n 1, 1) := by decide +kernel
theorem dX12_widened_3 : decode cX12_widened 3 = .ok (.sipush 19683, 3) := by decide +kernel
theorem dX12_widened_6 : decode cX12_widened 6 = .ok (.if_icmp .ge 11, 3) := by decide +kernel
theorem dX12_widened_9 : decode cX12_widened 9 = .ok (.iload_n 1, 1) := by decide +kernel
theorem dX12_widened_10 : decode cX12_widened 10 = .ok (.bipush 27, 2) := by decide +kernel
theorem dX12_widened_12 : decode cX12_widened 12 = .ok (.imul, 1) := by decide +kernel
theorem dX12_widened_13 : decode cX12_widened 13 = .ok (.istore_n 1, 1) := by decide +kernel
theorem dX12_widened_14 : decode cX12_widened 14 = .ok (.goto (-12), 3) := by decide +kernel
theorem dX12_widened_17 : decode cX12_widened 17 = .ok (.iload_n 1, 1) := by decide +kernel
theorem dX12_widened_18 : decode cX12_widened 18 = .ok (.ireturn, 1) := by decide +kernel
theorem dX12_layWords_0 : decode cX12_layWords 0 = .ok (.aload_n 0, 1) := by decide +kernel
theorem dX12_layWords_1 : decode cX12_layWords 1 = .ok (.iconst 0, 1) := by decide +kernel
theorem dX12_layWords_2 : decode cX12_layWords 2 = .ok (.putfield 337, 3) := by decide +kernel
theorem dX12_layWords_5 : decode cX12_layWords 5 = .ok (.iconst 0, 1) := by decide +kernel
theorem dX12_layWords_6 : decode cX12_layWords 6 = .ok (.istore_n 1, 1) := by decide +kernel
theorem dX12_layWords_7 : decode cX12_layWords 7 = .ok (.iload_n 1, 1) := by decide +kernel
theorem dX12_layWords_8 : decode cX12_layWords 8 = .ok (.aload_n 0, 1) := by decide +kernel
theorem dX12_layWords_9 : decode cX12_layWords 9 = .ok (.getfield 253, 3) := by decide +kernel
theorem dX12_layWords_12 : decode cX12_layWords 12 = .ok (.if_icmp .ge 151, 3) := by decide +kernel
theorem dX12_layWords_15 : decode cX12_layWords 15 = .ok (.aload_n 0, 1) := by decide +kernel
theorem dX12_layWords_16 : decode cX12_layWords 16 = .ok (.iload_n 1, 1) := by decide +kernel
theorem dX12_layWords_17 : decode cX12_layWords 17 = .ok (.invokevirtual 266, 3) := by decide +kernel
theorem dX12_layWords_20 : decode cX12_layWords 20 = .ok (.istore_n 2, 1) := by decide +kernel
theorem dX12_layWords_21 : decode cX12_layWords 21 = .ok (.iconst 0, 1) := by decide +kernel
theorem dX12_layWords_22 : decode cX12_layWords 22 = .ok (.istore_n 3, 1) := by decide +kernel
theorem dX12_layWords_23 : decode cX12_layWords 23 = .ok (.iload_n 3, 1) := by decide +kernel
theorem dX12_layWords_24 : decode cX12_layWords 24 = .ok (.aload_n 0, 1) := by decide +kernel
theorem dX12_layWords_25 : decode cX12_layWords 25 = .ok (.getfield 337, 3) := by decide +kernel
theorem dX12_layWords_28 : decode cX12_layWords 28 = .ok (.if_icmp .ge 25, 3) := by decide +kernel
theorem dX12_layWords_31 : decode cX12_layWords 31 = .ok (.aload_n 0, 1) := by decide +kernel
theorem dX12_layWords_32 : decode cX12_layWords 32 = .ok (.getfield 44, 3) := by decide +kernel
theorem dX12_layWords_35 : decode cX12_layWords 35 = .ok (.iload_n 3, 1) := by decide +kernel
theorem dX12_layWords_36 : decode cX12_layWords 36 = .ok (.iaload, 1) := by decide +kernel
theorem dX12_layWords_37 : decode cX12_layWords 37 = .ok (.invokestatic 358, 3) := by decide +kernel
theorem dX12_layWords_40 : decode cX12_layWords 40 = .ok (.iload_n 2, 1) := by decide +kernel
theorem dX12_layWords_41 : decode cX12_layWords 41 = .ok (.invokestatic 358, 3) := by decide +kernel
theorem dX12_layWords_44 : decode cX12_layWords 44 = .ok (.if_icmp .ge 9, 3) := by decide +kernel
theorem dX12_layWords_47 : decode cX12_layWords 47 = .ok (.iinc 3 1, 3) := by decide +kernel
theorem dX12_layWords_50 : decode cX12_layWords 50 = .ok (.goto (-27), 3) := by decide +kernel
theorem dX12_layWords_53 : decode cX12_layWords 53 = .ok (.iload_n 3, 1) := by decide +kernel
theorem dX12_layWords_54 : decode cX12_layWords 54 = .ok (.aload_n 0, 1) := by decide +kernel
theorem dX12_layWords_55 : decode cX12_layWords 55 = .ok (.getfield 337, 3) := by decide +kernel
theorem dX12_layWords_58 : decode cX12_layWords 58 = .ok (.if_icmp .ge 17, 3) := by decide +kernel
theorem dX12_layWords_61 : decode cX12_layWords 61 = .ok (.aload_n 0, 1) := by decide +kernel
theorem dX12_layWords_62 : decode cX12_layWords 62 = .ok (.getfield 44, 3) := by decide +kernel
theorem dX12_layWords_65 : decode cX12_layWords 65 = .ok (.iload_n 3, 1) := by decide +kernel
theorem dX12_layWords_66 : decode cX12_layWords 66 = .ok (.iaload, 1) := by decide +kernel
theorem dX12_layWords_67 : decode cX12_layWords 67 = .ok (.iload_n 2, 1) := by decide +kernel
theorem dX12_layWords_68 : decode cX12_layWords 68 = .ok (.if_icmp .ne 7, 3) := by decide +kernel
theorem dX12_layWords_71 : decode cX12_layWords 71 = .ok (.iconst 1, 1) := by decide +kernel
theorem dX12_layWords_72 : decode cX12_layWords 72 = .ok (.goto 4, 3) := by decide +kernel
theorem dX12_layWords_75 : decode cX12_layWords 75 = .ok (.iconst 0, 1) := by decide +kernel
theorem dX12_layWords_76 : decode cX12_layWords 76 = .ok (.istore 4, 2) := by decide +kernel
theorem dX12_layWords_78 : decode cX12_layWords 78 = .ok (.aload_n 0, 1) := by decide +kernel
theorem dX12_layWords_79 : decode cX12_layWords 79 = .ok (.getfield 337, 3) := by decide +kernel
theorem dX12_layWords_82 : decode cX12_layWords 82 = .ok (.istore 5, 2) := by decide +kernel
theorem dX12_layWords_84 : decode cX12_layWords 84 = .ok (.iload 5, 2) := by decide +kernel
theorem dX12_layWords_86 : decode cX12_layWords 86 = .ok (.iload_n 3, 1) := by decide +kernel
theorem dX12_layWords_87 : decode cX12_layWords 87 = .ok (.if_icmp .le 30, 3) := by decide +kernel
theorem dX12_layWords_90 : decode cX12_layWords 90 = .ok (.iload 4, 2) := by decide +kernel
theorem dX12_layWords_92 : decode cX12_layWords 92 = .ok (.ifCond .ne 25, 3) := by decide +kernel
theorem dX12_layWords_95 : decode cX12_layWords 95 = .ok (.aload_n 0, 1) := by decide +kernel
theorem dX12_layWords_96 : decode cX12_layWords 96 = .ok (.getfield 44, 3) := by decide +kernel
theorem dX12_layWords_99 : decode cX12_layWords 99 = .ok (.iload 5, 2) := by decide +kernel
theorem dX12_layWords_101 : decode cX12_layWords 101 = .ok (.aload_n 0, 1) := by decide +kernel
theorem dX12_layWords_102 : decode cX12_layWords 102 = .ok (.getfield 44, 3) := by decide +kernel
theorem dX12_layWords_105 : decode cX12_layWords 105 = .ok (.iload 5, 2) := by decide +kernel
theorem dX12_layWords_107 : decode cX12_layWords 107 = .ok (.iconst 1, 1) := by decide +kernel
theorem dX12_layWords_108 : decode cX12_layWords 108 = .ok (.isub, 1) := by decide +kernel
theorem dX12_layWords_109 : decode cX12_layWords 109 = .ok (.iaload, 1) := by decide +kernel
theorem dX12_layWords_110 : decode cX12_layWords 110 = .ok (.iastore, 1) := by decide +kernel
theorem dX12_layWords_111 : decode cX12_layWords 111 = .ok (.iinc 5 (-1), 3) := by decide +kernel
theorem dX12_layWords_114 : decode cX12_layWords 114 = .ok (.goto (-30), 3) := by decide +kernel
theorem dX12_layWords_117 : decode cX12_layWords 117 = .ok (.aload_n 0, 1) := by decide +kernel
theorem dX12_layWords_118 : decode cX12_layWords 118 = .ok (.getfield 44, 3) := by decide +kernel
theorem dX12_layWords_121 : decode cX12_layWords 121 = .ok (.iload_n 3, 1) := by decide +kernel
theorem dX12_layWords_122 : decode cX12_layWords 122 = .ok (.iload 4, 2) := by decide +kernel
theorem dX12_layWords_124 : decode cX12_layWords 124 = .ok (.ifCond .eq 12, 3) := by decide +kernel
theorem dX12_layWords_127 : decode cX12_layWords 127 = .ok (.aload_n 0, 1) := by decide +kernel
theorem dX12_layWords_128 : decode cX12_layWords 128 = .ok (.getfield 44, 3) := by decide +kernel
theorem dX12_layWords_131 : decode cX12_layWords 131 = .ok (.iload_n 3, 1) := by decide +kernel
theorem dX12_layWords_132 : decode cX12_layWords 132 = .ok (.iaload, 1) := by decide +kernel
theorem dX12_layWords_133 : decode cX12_layWords 133 = .ok (.goto 4, 3) := by decide +kernel
theorem dX12_layWords_136 : decode cX12_layWords 136 = .ok (.iload_n 2, 1) := by decide +kernel
theorem dX12_layWords_137 : decode cX12_layWords 137 = .ok (.iastore, 1) := by decide +kernel
theorem dX12_layWords_138 : decode cX12_layWords 138 = .ok (.aload_n 0, 1) := by decide +kernel
theorem dX12_layWords_139 : decode cX12_layWords 139 = .ok (.dup, 1) := by decide +kernel
theorem dX12_layWords_140 : decode cX12_layWords 140 = .ok (.getfield 337, 3) := by decide +kernel
theorem dX12_layWords_143 : decode cX12_layWords 143 = .ok (.iload 4, 2) := by decide +kernel
theorem dX12_layWords_145 : decode cX12_layWords 145 = .ok (.ifCond .eq 7, 3) := by decide +kernel
theorem dX12_layWords_148 : decode cX12_layWords 148 = .ok (.iconst 0, 1) := by decide +kernel
theorem dX12_layWords_149 : decode cX12_layWords 149 = .ok (.goto 4, 3) := by decide +kernel
theorem dX12_layWords_152 : decode cX12_layWords 152 = .ok (.iconst 1, 1) := by decide +kernel
theorem dX12_layWords_153 : decode cX12_layWords 153 = .ok (.iadd, 1) := by decide +kernel
theorem dX12_layWords_154 : decode cX12_layWords 154 = .ok (.putfield 337, 3) := by decide +kernel
theorem dX12_layWords_157 : decode cX12_layWords 157 = .ok (.iinc 1 1, 3) := by decide +kernel
theorem dX12_layWords_160 : decode cX12_layWords 160 = .ok (.goto (-153), 3) := by decide +kernel
theorem dX12_layWords_163 : decode cX12_layWords 163 = .ok (.return_, 1) := by decide +kernel
theorem dX12_timesIn_0 : decode cX12_timesIn 0 = .ok (.iconst 0, 1) := by decide +kernel
theorem dX12_timesIn_1 : decode cX12_timesIn 1 = .ok (.istore 4, 2) := by decide +kernel
theorem dX12_timesIn_3 : decode cX12_timesIn 3 = .ok (.iconst 0, 1) := by decide +kernel
theorem dX12_timesIn_4 : decode cX12_timesIn 4 = .ok (.istore 5, 2) := by decide +kernel
theorem dX12_timesIn_6 : decode cX12_timesIn 6 = .ok (.iload 5, 2) := by decide +kernel
theorem dX12_timesIn_8 : decode cX12_timesIn 8 = .ok (.aload_n 0, 1) := by decide +kernel
theorem dX12_timesIn_9 : decode cX12_timesIn 9 = .ok (.iload_n 1, 1) := by decide +kernel
theorem dX12_timesIn_10 : decode cX12_timesIn 10 = .ok (.iload_n 2, 1) := by decide +kernel
theorem dX12_timesIn_11 : decode cX12_timesIn 11 = .ok (.invokevirtual 269, 3) := by decide +kernel
theorem dX12_timesIn_14 : decode cX12_timesIn 14 = .ok (.if_icmp .ge 31, 3) := by decide +kernel
theorem dX12_timesIn_17 : decode cX12_timesIn 17 = .ok (.iload 4, 2) := by decide +kernel
theorem dX12_timesIn_19 : decode cX12_timesIn 19 = .ok (.aload_n 0, 1) := by decide +kernel
theorem dX12_timesIn_20 : decode cX12_timesIn 20 = .ok (.iload_n 1, 1) := by decide +kernel
theorem dX12_timesIn_21 : decode cX12_timesIn 21 = .ok (.iload_n 2, 1) := by decide +kernel
theorem dX12_timesIn_22 : decode cX12_timesIn 22 = .ok (.iload 5, 2) := by decide +kernel
theorem dX12_timesIn_24 : decode cX12_timesIn 24 = .ok (.invokevirtual 275, 3) := by decide +kernel
theorem dX12_timesIn_27 : decode cX12_timesIn 27 = .ok (.iload_n 3, 1) := by decide +kernel
theorem dX12_timesIn_28 : decode cX12_timesIn 28 = .ok (.if_icmp .ne 7, 3) := by decide +kernel
theorem dX12_timesIn_31 : decode cX12_timesIn 31 = .ok (.iconst 1, 1) := by decide +kernel
theorem dX12_timesIn_32 : decode cX12_timesIn 32 = .ok (.goto 4, 3) := by decide +kernel
theorem dX12_timesIn_35 : decode cX12_timesIn 35 = .ok (.iconst 0, 1) := by decide +kernel
theorem dX12_timesIn_36 : decode cX12_timesIn 36 = .ok (.iadd, 1) := by decide +kernel
theorem dX12_timesIn_37 : decode cX12_timesIn 37 = .ok (.istore 4, 2) := by decide +kernel
theorem dX12_timesIn_39 : decode cX12_timesIn 39 = .ok (.iinc 5 1, 3) := by decide +kernel
theorem dX12_timesIn_42 : decode cX12_timesIn 42 = .ok (.goto (-36), 3) := by decide +kernel
theorem dX12_timesIn_45 : decode cX12_timesIn 45 = .ok (.iload 4, 2) := by decide +kernel
theorem dX12_timesIn_47 : decode cX12_timesIn 47 = .ok (.ireturn, 1) := by decide +kernel
theorem dX12_ofWord_0 : decode cX12_ofWord 0 = .ok (.iconst 0, 1) := by decide +kernel
theorem dX12_ofWord_1 : decode cX12_ofWord 1 = .ok (.istore_n 3, 1) := by decide +kernel
theorem dX12_ofWord_2 : decode cX12_ofWord 2 = .ok (.iconst 0, 1) := by decide +kernel
theorem dX12_ofWord_3 : decode cX12_ofWord 3 = .ok (.istore 4, 2) := by decide +kernel
theorem dX12_ofWord_5 : decode cX12_ofWord 5 = .ok (.ldc_w 361, 3) := by decide +kernel
theorem dX12_ofWord_8 : decode cX12_ofWord 8 = .ok (.istore 5, 2) := by decide +kernel
theorem dX12_ofWord_10 : decode cX12_ofWord 10 = .ok (.iconst 0, 1) := by decide +kernel
theorem dX12_ofWord_11 : decode cX12_ofWord 11 = .ok (.istore 6, 2) := by decide +kernel
theorem dX12_ofWord_13 : decode cX12_ofWord 13 = .ok (.iconst 0, 1) := by decide +kernel
theorem dX12_ofWord_14 : decode cX12_ofWord 14 = .ok (.istore 7, 2) := by decide +kernel
theorem dX12_ofWord_16 : decode cX12_ofWord 16 = .ok (.iload 7, 2) := by decide +kernel
theorem dX12_ofWord_18 : decode cX12_ofWord 18 = .ok (.bipush 40, 2) := by decide +kernel
theorem dX12_ofWord_20 : decode cX12_ofWord 20 = .ok (.if_icmp .ge 116, 3) := by decide +kernel
theorem dX12_ofWord_23 : decode cX12_ofWord 23 = .ok (.iload 7, 2) := by decide +kernel
theorem dX12_ofWord_25 : decode cX12_ofWord 25 = .ok (.bipush 10, 2) := by decide +kernel
theorem dX12_ofWord_27 : decode cX12_ofWord 27 = .ok (.idiv, 1) := by decide +kernel
theorem dX12_ofWord_28 : decode cX12_ofWord 28 = .ok (.istore 8, 2) := by decide +kernel
theorem dX12_ofWord_30 : decode cX12_ofWord 30 = .ok (.iload 7, 2) := by decide +kernel
theorem dX12_ofWord_32 : decode cX12_ofWord 32 = .ok (.bipush 10, 2) := by decide +kernel
theorem dX12_ofWord_34 : decode cX12_ofWord 34 = .ok (.irem, 1) := by decide +kernel
theorem dX12_ofWord_35 : decode cX12_ofWord 35 = .ok (.istore 9, 2) := by decide +kernel
theorem dX12_ofWord_37 : decode cX12_ofWord 37 = .ok (.aload_n 0, 1) := by decide +kernel
theorem dX12_ofWord_38 : decode cX12_ofWord 38 = .ok (.iload 8, 2) := by decide +kernel
theorem dX12_ofWord_40 : decode cX12_ofWord 40 = .ok (.iload 9, 2) := by decide +kernel
theorem dX12_ofWord_42 : decode cX12_ofWord 42 = .ok (.invokevirtual 284, 3) := by decide +kernel
theorem dX12_ofWord_45 : decode cX12_ofWord 45 = .ok (.ifCond .eq 15, 3) := by decide +kernel
theorem dX12_ofWord_48 : decode cX12_ofWord 48 = .ok (.aload_n 0, 1) := by decide +kernel
theorem dX12_ofWord_49 : decode cX12_ofWord 49 = .ok (.iload 8, 2) := by decide +kernel
theorem dX12_ofWord_51 : decode cX12_ofWord 51 = .ok (.iload 9, 2) := by decide +kernel
theorem dX12_ofWord_53 : decode cX12_ofWord 53 = .ok (.iload_n 1, 1) := by decide +kernel
theorem dX12_ofWord_54 : decode cX12_ofWord 54 = .ok (.invokevirtual 362, 3) := by decide +kernel
theorem dX12_ofWord_57 : decode cX12_ofWord 57 = .ok (.goto 4, 3) := by decide +kernel
theorem dX12_ofWord_60 : decode cX12_ofWord 60 = .ok (.iconst 0, 1) := by decide +kernel
theorem dX12_ofWord_61 : decode cX12_ofWord 61 = .ok (.istore 10, 2) := by decide +kernel
theorem dX12_ofWord_63 : decode cX12_ofWord 63 = .ok (.iload_n 3, 1) := by decide +kernel
theorem dX12_ofWord_64 : decode cX12_ofWord 64 = .ok (.iload 10, 2) := by decide +kernel
theorem dX12_ofWord_66 : decode cX12_ofWord 66 = .ok (.ifCond .le 7, 3) := by decide +kernel
theorem dX12_ofWord_69 : decode cX12_ofWord 69 = .ok (.iconst 1, 1) := by decide +kernel
theorem dX12_ofWord_70 : decode cX12_ofWord 70 = .ok (.goto 4, 3) := by decide +kernel
theorem dX12_ofWord_73 : decode cX12_ofWord 73 = .ok (.iconst 0, 1) := by decide +kernel
theorem dX12_ofWord_74 : decode cX12_ofWord 74 = .ok (.iadd, 1) := by decide +kernel
theorem dX12_ofWord_75 : decode cX12_ofWord 75 = .ok (.istore_n 3, 1) := by decide +kernel
theorem dX12_ofWord_76 : decode cX12_ofWord 76 = .ok (.iload 4, 2) := by decide +kernel
theorem dX12_ofWord_78 : decode cX12_ofWord 78 = .ok (.iload 10, 2) := by decide +kernel
theorem dX12_ofWord_80 : decode cX12_ofWord 80 = .ok (.ifCond .le 10, 3) := by decide +kernel
theorem dX12_ofWord_83 : decode cX12_ofWord 83 = .ok (.iconst 1, 1) := by decide +kernel
theorem dX12_ofWord_84 : decode cX12_ofWord 84 = .ok (.iload 8, 2) := by decide +kernel
theorem dX12_ofWord_86 : decode cX12_ofWord 86 = .ok (.ishl, 1) := by decide +kernel
theorem dX12_ofWord_87 : decode cX12_ofWord 87 = .ok (.goto 4, 3) := by decide +kernel
theorem dX12_ofWord_90 : decode cX12_ofWord 90 = .ok (.iconst 0, 1) := by decide +kernel
theorem dX12_ofWord_91 : decode cX12_ofWord 91 = .ok (.ior, 1) := by decide +kernel
theorem dX12_ofWord_92 : decode cX12_ofWord 92 = .ok (.istore 4, 2) := by decide +kernel
theorem dX12_ofWord_94 : decode cX12_ofWord 94 = .ok (.iload 10, 2) := by decide +kernel
theorem dX12_ofWord_96 : decode cX12_ofWord 96 = .ok (.ifCond .le 21, 3) := by decide +kernel
theorem dX12_ofWord_99 : decode cX12_ofWord 99 = .ok (.iload 5, 2) := by decide +kernel
theorem dX12_ofWord_101 : decode cX12_ofWord 101 = .ok (.aload_n 0, 1) := by decide +kernel
theorem dX12_ofWord_102 : decode cX12_ofWord 102 = .ok (.getfield 35, 3) := by decide +kernel
theorem dX12_ofWord_105 : decode cX12_ofWord 105 = .ok (.bipush 6, 2) := by decide +kernel
theorem dX12_ofWord_107 : decode cX12_ofWord 107 = .ok (.iload 7, 2) := by decide +kernel
theorem dX12_ofWord_109 : decode cX12_ofWord 109 = .ok (.iadd, 1) := by decide +kernel
theorem dX12_ofWord_110 : decode cX12_ofWord 110 = .ok (.iaload, 1) := by decide +kernel
theorem dX12_ofWord_111 : decode cX12_ofWord 111 = .ok (.invokestatic 150, 3) := by decide +kernel
theorem dX12_ofWord_114 : decode cX12_ofWord 114 = .ok (.goto 5, 3) := by decide +kernel
theorem dX12_ofWord_117 : decode cX12_ofWord 117 = .ok (.iload 5, 2) := by decide +kernel
theorem dX12_ofWord_119 : decode cX12_ofWord 119 = .ok (.istore 5, 2) := by decide +kernel
theorem dX12_ofWord_121 : decode cX12_ofWord 121 = .ok (.iload 6, 2) := by decide +kernel
theorem dX12_ofWord_123 : decode cX12_ofWord 123 = .ok (.iload 10, 2) := by decide +kernel
theorem dX12_ofWord_125 : decode cX12_ofWord 125 = .ok (.invokestatic 297, 3) := by decide +kernel
theorem dX12_ofWord_128 : decode cX12_ofWord 128 = .ok (.istore 6, 2) := by decide +kernel
theorem dX12_ofWord_130 : decode cX12_ofWord 130 = .ok (.iinc 7 1, 3) := by decide +kernel
theorem dX12_ofWord_133 : decode cX12_ofWord 133 = .ok (.goto (-117), 3) := by decide +kernel
theorem dX12_ofWord_136 : decode cX12_ofWord 136 = .ok (.iload_n 2, 1) := by decide +kernel
theorem dX12_ofWord_137 : decode cX12_ofWord 137 = .ok (.tableswitch 48 0 4 #[35, 37, 39, 42, 45], 35) := by decide +kernel
theorem dX12_ofWord_172 : decode cX12_ofWord 172 = .ok (.iload_n 1, 1) := by decide +kernel
theorem dX12_ofWord_173 : decode cX12_ofWord 173 = .ok (.ireturn, 1) := by decide +kernel
theorem dX12_ofWord_174 : decode cX12_ofWord 174 = .ok (.iload_n 3, 1) := by decide +kernel
theorem dX12_ofWord_175 : decode cX12_ofWord 175 = .ok (.ireturn, 1) := by decide +kernel
theorem dX12_ofWord_176 : decode cX12_ofWord 176 = .ok (.iload 4, 2) := by decide +kernel
theorem dX12_ofWord_178 : decode cX12_ofWord 178 = .ok (.ireturn, 1) := by decide +kernel
theorem dX12_ofWord_179 : decode cX12_ofWord 179 = .ok (.iload 5, 2) := by decide +kernel
theorem dX12_ofWord_181 : decode cX12_ofWord 181 = .ok (.ireturn, 1) := by decide +kernel
theorem dX12_ofWord_182 : decode cX12_ofWord 182 = .ok (.iload 6, 2) := by decide +kernel
theorem dX12_ofWord_184 : decode cX12_ofWord 184 = .ok (.ireturn, 1) := by decide +kernel
theorem dX12_ofWord_185 : decode cX12_ofWord 185 = .ok (.iconst (-1), 1) := by decide +kernel
theorem dX12_ofWord_186 : decode cX12_ofWord 186 = .ok (.ireturn, 1) := by decide +kernel
theorem dX12_word_0 : decode cX12_word 0 = .ok (.aload_n 0, 1) := by decide +kernel
theorem dX12_word_1 : decode cX12_word 1 = .ok (.iconst 0, 1) := by decide +kernel
theorem dX12_word_2 : decode cX12_word 2 = .ok (.putfield 60, 3) := by decide +kernel
theorem dX12_word_5 : decode cX12_word 5 = .ok (.aload_n 0, 1) := by decide +kernel
theorem dX12_word_6 : decode cX12_word 6 = .ok (.iload_n 1, 1) := by decide +kernel
theorem dX12_word_7 : decode cX12_word 7 = .ok (.invokevirtual 313, 3) := by decide +kernel
theorem dX12_word_10 : decode cX12_word 10 = .ok (.ifCond .ne 5, 3) := by decide +kernel
theorem dX12_word_13 : decode cX12_word 13 = .ok (.iconst (-1), 1) := by decide +kernel
theorem dX12_word_14 : decode cX12_word 14 = .ok (.ireturn, 1) := by decide +kernel
theorem dX12_word_15 : decode cX12_word 15 = .ok (.aload_n 0, 1) := by decide +kernel
theorem dX12_word_16 : decode cX12_word 16 = .ok (.invokevirtual 334, 3) := by decide +kernel
theorem dX12_word_19 : decode cX12_word 19 = .ok (.iload_n 2, 1) := by decide +kernel
theorem dX12_word_20 : decode cX12_word 20 = .ok (.iconst 0, 1) := by decide +kernel
theorem dX12_word_21 : decode cX12_word 21 = .ok (.aload_n 0, 1) := by decide +kernel
theorem dX12_word_22 : decode cX12_word 22 = .ok (.getfield 337, 3) := by decide +kernel
theorem dX12_word_25 : decode cX12_word 25 = .ok (.iconst 1, 1) := by decide +kernel
theorem dX12_word_26 : decode cX12_word 26 = .ok (.isub, 1) := by decide +kernel
theorem dX12_word_27 : decode cX12_word 27 = .ok (.invokestatic 72, 3) := by decide +kernel
theorem dX12_word_30 : decode cX12_word 30 = .ok (.ifCond .eq 17, 3) := by decide +kernel
theorem dX12_word_33 : decode cX12_word 33 = .ok (.aload_n 0, 1) := by decide +kernel
theorem dX12_word_34 : decode cX12_word 34 = .ok (.aload_n 0, 1) := by decide +kernel
theorem dX12_word_35 : decode cX12_word 35 = .ok (.getfield 44, 3) := by decide +kernel
theorem dX12_word_38 : decode cX12_word 38 = .ok (.iload_n 2, 1) := by decide +kernel
theorem dX12_word_39 : decode cX12_word 39 = .ok (.iaload, 1) := by decide +kernel
theorem dX12_word_40 : decode cX12_word 40 = .ok (.iload_n 3, 1) := by decide +kernel
theorem dX12_word_41 : decode cX12_word 41 = .ok (.invokevirtual 365, 3) := by decide +kernel
theorem dX12_word_44 : decode cX12_word 44 = .ok (.goto 4, 3) := by decide +kernel
theorem dX12_word_47 : decode cX12_word 47 = .ok (.iconst (-1), 1) := by decide +kernel
theorem dX12_word_48 : decode cX12_word 48 = .ok (.ireturn, 1) := by decide +kernel
theorem dX12_dated_0 : decode cX12_dated 0 = .ok (.aload_n 0, 1) := by decide +kernel
theorem dX12_dated_1 : decode cX12_dated 1 = .ok (.iconst 0, 1) := by decide +kernel
theorem dX12_dated_2 : decode cX12_dated 2 = .ok (.putfield 60, 3) := by decide +kernel
theorem dX12_dated_5 : decode cX12_dated 5 = .ok (.aload_n 0, 1) := by decide +kernel
theorem dX12_dated_6 : decode cX12_dated 6 = .ok (.iload_n 1, 1) := by decide +kernel
theorem dX12_dated_7 : decode cX12_dated 7 = .ok (.invokevirtual 313, 3) := by decide +kernel
theorem dX12_dated_10 : decode cX12_dated 10 = .ok (.ifCond .ne 5, 3) := by decide +kernel
theorem dX12_dated_13 : decode cX12_dated 13 = .ok (.iconst (-1), 1) := by decide +kernel
theorem dX12_dated_14 : decode cX12_dated 14 = .ok (.ireturn, 1) := by decide +kernel
theorem dX12_dated_15 : decode cX12_dated 15 = .ok (.iconst 0, 1) := by decide +kernel
theorem dX12_dated_16 : decode cX12_dated 16 = .ok (.istore_n 3, 1) := by decide +kernel
theorem dX12_dated_17 : decode cX12_dated 17 = .ok (.iload_n 3, 1) := by decide +kernel
theorem dX12_dated_18 : decode cX12_dated 18 = .ok (.bipush 40, 2) := by decide +kernel
theorem dX12_dated_20 : decode cX12_dated 20 = .ok (.if_icmp .ge 42, 3) := by decide +kernel
theorem dX12_dated_23 : decode cX12_dated 23 = .ok (.aload_n 0, 1) := by decide +kernel
theorem dX12_dated_24 : decode cX12_dated 24 = .ok (.iload_n 3, 1) := by decide +kernel
theorem dX12_dated_25 : decode cX12_dated 25 = .ok (.bipush 10, 2) := by decide +kernel
theorem dX12_dated_27 : decode cX12_dated 27 = .ok (.idiv, 1) := by decide +kernel
theorem dX12_dated_28 : decode cX12_dated 28 = .ok (.iload_n 3, 1) := by decide +kernel
theorem dX12_dated_29 : decode cX12_dated 29 = .ok (.bipush 10, 2) := by decide +kernel
theorem dX12_dated_31 : decode cX12_dated 31 = .ok (.irem, 1) := by decide +kernel
theorem dX12_dated_32 : decode cX12_dated 32 = .ok (.invokevirtual 284, 3) := by decide +kernel
theorem dX12_dated_35 : decode cX12_dated 35 = .ok (.ifCond .eq 21, 3) := by decide +kernel
theorem dX12_dated_38 : decode cX12_dated 38 = .ok (.aload_n 0, 1) := by decide +kernel
theorem dX12_dated_39 : decode cX12_dated 39 = .ok (.getfield 35, 3) := by decide +kernel
theorem dX12_dated_42 : decode cX12_dated 42 = .ok (.bipush 6, 2) := by decide +kernel
theorem dX12_dated_44 : decode cX12_dated 44 = .ok (.iload_n 3, 1) := by decide +kernel
theorem dX12_dated_45 : decode cX12_dated 45 = .ok (.iadd, 1) := by decide +kernel
theorem dX12_dated_46 : decode cX12_dated 46 = .ok (.iaload, 1) := by decide +kernel
theorem dX12_dated_47 : decode cX12_dated 47 = .ok (.iload_n 2, 1) := by decide +kernel
theorem dX12_dated_48 : decode cX12_dated 48 = .ok (.if_icmp .ne 8, 3) := by decide +kernel
theorem dX12_dated_51 : decode cX12_dated 51 = .ok (.iload_n 3, 1) := by decide +kernel
theorem dX12_dated_52 : decode cX12_dated 52 = .ok (.bipush 10, 2) := by decide +kernel
theorem dX12_dated_54 : decode cX12_dated 54 = .ok (.idiv, 1) := by decide +kernel
theorem dX12_dated_55 : decode cX12_dated 55 = .ok (.ireturn, 1) := by decide +kernel
theorem dX12_dated_56 : decode cX12_dated 56 = .ok (.iinc 3 1, 3) := by decide +kernel
theorem dX12_dated_59 : decode cX12_dated 59 = .ok (.goto (-42), 3) := by decide +kernel
theorem dX12_dated_62 : decode cX12_dated 62 = .ok (.iconst (-1), 1) := by decide +kernel
theorem dX12_dated_63 : decode cX12_dated 63 = .ok (.ireturn, 1) := by decide +kernel
theorem dX12_shared_0 : decode cX12_shared 0 = .ok (.aload_n 0, 1) := by decide +kernel
theorem dX12_shared_1 : decode cX12_shared 1 = .ok (.iconst 0, 1) := by decide +kernel
theorem dX12_shared_2 : decode cX12_shared 2 = .ok (.putfield 60, 3) := by decide +kernel
theorem dX12_shared_5 : decode cX12_shared 5 = .ok (.aload_n 0, 1) := by decide +kernel
theorem dX12_shared_6 : decode cX12_shared 6 = .ok (.iload_n 1, 1) := by decide +kernel
theorem dX12_shared_7 : decode cX12_shared 7 = .ok (.invokevirtual 313, 3) := by decide +kernel
theorem dX12_shared_10 : decode cX12_shared 10 = .ok (.ifCond .eq 22, 3) := by decide +kernel
theorem dX12_shared_13 : decode cX12_shared 13 = .ok (.aload_n 0, 1) := by decide +kernel
theorem dX12_shared_14 : decode cX12_shared 14 = .ok (.iload_n 2, 1) := by decide +kernel
theorem dX12_shared_15 : decode cX12_shared 15 = .ok (.iload_n 3, 1) := by decide +kernel
theorem dX12_shared_16 : decode cX12_shared 16 = .ok (.invokevirtual 284, 3) := by decide +kernel
theorem dX12_shared_19 : decode cX12_shared 19 = .ok (.ifCond .eq 13, 3) := by decide +kernel
theorem dX12_shared_22 : decode cX12_shared 22 = .ok (.aload_n 0, 1) := by decide +kernel
theorem dX12_shared_23 : decode cX12_shared 23 = .ok (.iload_n 2, 1) := by decide +kernel
theorem dX12_shared_24 : decode cX12_shared 24 = .ok (.iload 4, 2) := by decide +kernel
theorem dX12_shared_26 : decode cX12_shared 26 = .ok (.invokevirtual 284, 3) := by decide +kernel
theorem dX12_shared_29 : decode cX12_shared 29 = .ok (.ifCond .ne 5, 3) := by decide +kernel
theorem dX12_shared_32 : decode cX12_shared 32 = .ok (.iconst (-1), 1) := by decide +kernel
theorem dX12_shared_33 : decode cX12_shared 33 = .ok (.ireturn, 1) := by decide +kernel
theorem dX12_shared_34 : decode cX12_shared 34 = .ok (.iconst 0, 1) := by decide +kernel
theorem dX12_shared_35 : decode cX12_shared 35 = .ok (.istore 5, 2) := by decide +kernel
theorem dX12_shared_37 : decode cX12_shared 37 = .ok (.iconst 0, 1) := by decide +kernel
theorem dX12_shared_38 : decode cX12_shared 38 = .ok (.istore 6, 2) := by decide +kernel
theorem dX12_shared_40 : decode cX12_shared 40 = .ok (.iload 6, 2) := by decide +kernel
theorem dX12_shared_42 : decode cX12_shared 42 = .ok (.aload_n 0, 1) := by decide +kernel
theorem dX12_shared_43 : decode cX12_shared 43 = .ok (.iload_n 2, 1) := by decide +kernel
theorem dX12_shared_44 : decode cX12_shared 44 = .ok (.iload_n 3, 1) := by decide +kernel
theorem dX12_shared_45 : decode cX12_shared 45 = .ok (.invokevirtual 269, 3) := by decide +kernel
theorem dX12_shared_48 : decode cX12_shared 48 = .ok (.if_icmp .ge 38, 3) := by decide +kernel
theorem dX12_shared_51 : decode cX12_shared 51 = .ok (.iload 5, 2) := by decide +kernel
theorem dX12_shared_53 : decode cX12_shared 53 = .ok (.aload_n 0, 1) := by decide +kernel
theorem dX12_shared_54 : decode cX12_shared 54 = .ok (.iload_n 2, 1) := by decide +kernel
theorem dX12_shared_55 : decode cX12_shared 55 = .ok (.iload 4, 2) := by decide +kernel
theorem dX12_shared_57 : decode cX12_shared 57 = .ok (.aload_n 0, 1) := by decide +kernel
theorem dX12_shared_58 : decode cX12_shared 58 = .ok (.iload_n 2, 1) := by decide +kernel
theorem dX12_shared_59 : decode cX12_shared 59 = .ok (.iload_n 3, 1) := by decide +kernel
theorem dX12_shared_60 : decode cX12_shared 60 = .ok (.iload 6, 2) := by decide +kernel
theorem dX12_shared_62 : decode cX12_shared 62 = .ok (.invokevirtual 262, 3) := by decide +kernel
theorem dX12_shared_65 : decode cX12_shared 65 = .ok (.invokevirtual 272, 3) := by decide +kernel
theorem dX12_shared_68 : decode cX12_shared 68 = .ok (.iconst (-1), 1) := by decide +kernel
theorem dX12_shared_69 : decode cX12_shared 69 = .ok (.if_icmp .ne 7, 3) := by decide +kernel
theorem dX12_shared_72 : decode cX12_shared 72 = .ok (.iconst 0, 1) := by decide +kernel
theorem dX12_shared_73 : decode cX12_shared 73 = .ok (.goto 4, 3) := by decide +kernel
theorem dX12_shared_76 : decode cX12_shared 76 = .ok (.iconst 1, 1) := by decide +kernel
theorem dX12_shared_77 : decode cX12_shared 77 = .ok (.iadd, 1) := by decide +kernel
theorem dX12_shared_78 : decode cX12_shared 78 = .ok (.istore 5, 2) := by decide +kernel
theorem dX12_shared_80 : decode cX12_shared 80 = .ok (.iinc 6 1, 3) := by decide +kernel
theorem dX12_shared_83 : decode cX12_shared 83 = .ok (.goto (-43), 3) := by decide +kernel
theorem dX12_shared_86 : decode cX12_shared 86 = .ok (.iload 5, 2) := by decide +kernel
theorem dX12_shared_88 : decode cX12_shared 88 = .ok (.ireturn, 1) := by decide +kernel
theorem dX12_common_0 : decode cX12_common 0 = .ok (.aload_n 0, 1) := by decide +kernel
theorem dX12_common_1 : decode cX12_common 1 = .ok (.iconst 0, 1) := by decide +kernel
theorem dX12_common_2 : decode cX12_common 2 = .ok (.putfield 60, 3) := by decide +kernel
theorem dX12_common_5 : decode cX12_common 5 = .ok (.aload_n 0, 1) := by decide +kernel
theorem dX12_common_6 : decode cX12_common 6 = .ok (.iload_n 1, 1) := by decide +kernel
theorem dX12_common_7 : decode cX12_common 7 = .ok (.invokevirtual 313, 3) := by decide +kernel
theorem dX12_common_10 : decode cX12_common 10 = .ok (.ifCond .eq 23, 3) := by decide +kernel
theorem dX12_common_13 : decode cX12_common 13 = .ok (.aload_n 0, 1) := by decide +kernel
theorem dX12_common_14 : decode cX12_common 14 = .ok (.iload_n 2, 1) := by decide +kernel
theorem dX12_common_15 : decode cX12_common 15 = .ok (.iload_n 3, 1) := by decide +kernel
theorem dX12_common_16 : decode cX12_common 16 = .ok (.invokevirtual 284, 3) := by decide +kernel
theorem dX12_common_19 : decode cX12_common 19 = .ok (.ifCond .eq 14, 3) := by decide +kernel
theorem dX12_common_22 : decode cX12_common 22 = .ok (.aload_n 0, 1) := by decide +kernel
theorem dX12_common_23 : decode cX12_common 23 = .ok (.iload 4, 2) := by decide +kernel
theorem dX12_common_25 : decode cX12_common 25 = .ok (.iload 5, 2) := by decide +kernel
theorem dX12_common_27 : decode cX12_common 27 = .ok (.invokevirtual 284, 3) := by decide +kernel
theorem dX12_common_30 : decode cX12_common 30 = .ok (.ifCond .ne 5, 3) := by decide +kernel
theorem dX12_common_33 : decode cX12_common 33 = .ok (.iconst (-1), 1) := by decide +kernel
theorem dX12_common_34 : decode cX12_common 34 = .ok (.ireturn, 1) := by decide +kernel
theorem dX12_common_35 : decode cX12_common 35 = .ok (.iconst 0, 1) := by decide +kernel
theorem dX12_common_36 : decode cX12_common 36 = .ok (.istore 6, 2) := by decide +kernel
theorem dX12_common_38 : decode cX12_common 38 = .ok (.iload 6, 2) := by decide +kernel
theorem dX12_common_40 : decode cX12_common 40 = .ok (.sipush 441, 3) := by decide +kernel
theorem dX12_common_43 : decode cX12_common 43 = .ok (.if_icmp .ge 17, 3) := by decide +kernel
theorem dX12_common_46 : decode cX12_common 46 = .ok (.aload_n 0, 1) := by decide +kernel
theorem dX12_common_47 : decode cX12_common 47 = .ok (.getfield 47, 3) := by decide +kernel
theorem dX12_common_50 : decode cX12_common 50 = .ok (.iload 6, 2) := by decide +kernel
theorem dX12_common_52 : decode cX12_common 52 = .ok (.iconst 0, 1) := by decide +kernel
theorem dX12_common_53 : decode cX12_common 53 = .ok (.iastore, 1) := by decide +kernel
theorem dX12_common_54 : decode cX12_common 54 = .ok (.iinc 6 1, 3) := by decide +kernel
theorem dX12_common_57 : decode cX12_common 57 = .ok (.goto (-19), 3) := by decide +kernel
theorem dX12_common_60 : decode cX12_common 60 = .ok (.aload_n 0, 1) := by decide +kernel
theorem dX12_common_61 : decode cX12_common 61 = .ok (.iload_n 2, 1) := by decide +kernel
theorem dX12_common_62 : decode cX12_common 62 = .ok (.iload_n 3, 1) := by decide +kernel
theorem dX12_common_63 : decode cX12_common 63 = .ok (.invokevirtual 269, 3) := by decide +kernel
theorem dX12_common_66 : decode cX12_common 66 = .ok (.istore 6, 2) := by decide +kernel
theorem dX12_common_68 : decode cX12_common 68 = .ok (.aload_n 0, 1) := by decide +kernel
theorem dX12_common_69 : decode cX12_common 69 = .ok (.iload 4, 2) := by decide +kernel
theorem dX12_common_71 : decode cX12_common 71 = .ok (.iload 5, 2) := by decide +kernel
theorem dX12_common_73 : decode cX12_common 73 = .ok (.invokevirtual 269, 3) := by decide +kernel
theorem dX12_common_76 : decode cX12_common 76 = .ok (.istore 7, 2) := by decide +kernel
theorem dX12_common_78 : decode cX12_common 78 = .ok (.iconst 1, 1) := by decide +kernel
theorem dX12_common_79 : decode cX12_common 79 = .ok (.istore 8, 2) := by decide +kernel
theorem dX12_common_81 : decode cX12_common 81 = .ok (.iload 8, 2) := by decide +kernel
theorem dX12_common_83 : decode cX12_common 83 = .ok (.iload 6, 2) := by decide +kernel
theorem dX12_common_85 : decode cX12_common 85 = .ok (.if_icmp .gt 134, 3) := by decide +kernel
theorem dX12_common_88 : decode cX12_common 88 = .ok (.iconst 1, 1) := by decide +kernel
theorem dX12_common_89 : decode cX12_common 89 = .ok (.istore 9, 2) := by decide +kernel
theorem dX12_common_91 : decode cX12_common 91 = .ok (.iload 9, 2) := by decide +kernel
theorem dX12_common_93 : decode cX12_common 93 = .ok (.iload 7, 2) := by decide +kernel
theorem dX12_common_95 : decode cX12_common 95 = .ok (.if_icmp .gt 118, 3) := by decide +kernel
theorem dX12_common_98 : decode cX12_common 98 = .ok (.aload_n 0, 1) := by decide +kernel
theorem dX12_common_99 : decode cX12_common 99 = .ok (.iload_n 2, 1) := by decide +kernel
theorem dX12_common_100 : decode cX12_common 100 = .ok (.iload_n 3, 1) := by decide +kernel
theorem dX12_common_101 : decode cX12_common 101 = .ok (.iload 8, 2) := by decide +kernel
theorem dX12_common_103 : decode cX12_common 103 = .ok (.iconst 1, 1) := by decide +kernel
theorem dX12_common_104 : decode cX12_common 104 = .ok (.isub, 1) := by decide +kernel
theorem dX12_common_105 : decode cX12_common 105 = .ok (.invokevirtual 275, 3) := by decide +kernel
theorem dX12_common_108 : decode cX12_common 108 = .ok (.aload_n 0, 1) := by decide +kernel
theorem dX12_common_109 : decode cX12_common 109 = .ok (.iload 4, 2) := by decide +kernel
theorem dX12_common_111 : decode cX12_common 111 = .ok (.iload 5, 2) := by decide +kernel
theorem dX12_common_113 : decode cX12_common 113 = .ok (.iload 9, 2) := by decide +kernel
theorem dX12_common_115 : decode cX12_common 115 = .ok (.iconst 1, 1) := by decide +kernel
theorem dX12_common_116 : decode cX12_common 116 = .ok (.isub, 1) := by decide +kernel
theorem dX12_common_117 : decode cX12_common 117 = .ok (.invokevirtual 275, 3) := by decide +kernel
theorem dX12_common_120 : decode cX12_common 120 = .ok (.if_icmp .ne 7, 3) := by decide +kernel
theorem dX12_common_123 : decode cX12_common 123 = .ok (.iconst 1, 1) := by decide +kernel
theorem dX12_common_124 : decode cX12_common 124 = .ok (.goto 4, 3) := by decide +kernel
theorem dX12_common_127 : decode cX12_common 127 = .ok (.iconst 0, 1) := by decide +kernel
theorem dX12_common_128 : decode cX12_common 128 = .ok (.istore 10, 2) := by decide +kernel
theorem dX12_common_130 : decode cX12_common 130 = .ok (.aload_n 0, 1) := by decide +kernel
theorem dX12_common_131 : decode cX12_common 131 = .ok (.getfield 47, 3) := by decide +kernel
theorem dX12_common_134 : decode cX12_common 134 = .ok (.bipush 21, 2) := by decide +kernel
theorem dX12_common_136 : decode cX12_common 136 = .ok (.iload 8, 2) := by decide +kernel
theorem dX12_common_138 : decode cX12_common 138 = .ok (.imul, 1) := by decide +kernel
theorem dX12_common_139 : decode cX12_common 139 = .ok (.bipush 21, 2) := by decide +kernel
theorem dX12_common_141 : decode cX12_common 141 = .ok (.isub, 1) := by decide +kernel
theorem dX12_common_142 : decode cX12_common 142 = .ok (.iload 9, 2) := by decide +kernel
theorem dX12_common_144 : decode cX12_common 144 = .ok (.iadd, 1) := by decide +kernel
theorem dX12_common_145 : decode cX12_common 145 = .ok (.iaload, 1) := by decide +kernel
theorem dX12_common_146 : decode cX12_common 146 = .ok (.aload_n 0, 1) := by decide +kernel
theorem dX12_common_147 : decode cX12_common 147 = .ok (.getfield 47, 3) := by decide +kernel
theorem dX12_common_150 : decode cX12_common 150 = .ok (.bipush 21, 2) := by decide +kernel
theorem dX12_common_152 : decode cX12_common 152 = .ok (.iload 8, 2) := by decide +kernel
theorem dX12_common_154 : decode cX12_common 154 = .ok (.imul, 1) := by decide +kernel
theorem dX12_common_155 : decode cX12_common 155 = .ok (.iload 9, 2) := by decide +kernel
theorem dX12_common_157 : decode cX12_common 157 = .ok (.iadd, 1) := by decide +kernel
theorem dX12_common_158 : decode cX12_common 158 = .ok (.iconst 1, 1) := by decide +kernel
theorem dX12_common_159 : decode cX12_common 159 = .ok (.isub, 1) := by decide +kernel
theorem dX12_common_160 : decode cX12_common 160 = .ok (.iaload, 1) := by decide +kernel
theorem dX12_common_161 : decode cX12_common 161 = .ok (.invokestatic 297, 3) := by decide +kernel
theorem dX12_common_164 : decode cX12_common 164 = .ok (.istore 11, 2) := by decide +kernel
theorem dX12_common_166 : decode cX12_common 166 = .ok (.aload_n 0, 1) := by decide +kernel
theorem dX12_common_167 : decode cX12_common 167 = .ok (.getfield 47, 3) := by decide +kernel
theorem dX12_common_170 : decode cX12_common 170 = .ok (.bipush 21, 2) := by decide +kernel
theorem dX12_common_172 : decode cX12_common 172 = .ok (.iload 8, 2) := by decide +kernel
theorem dX12_common_174 : decode cX12_common 174 = .ok (.imul, 1) := by decide +kernel
theorem dX12_common_175 : decode cX12_common 175 = .ok (.iload 9, 2) := by decide +kernel
theorem dX12_common_177 : decode cX12_common 177 = .ok (.iadd, 1) := by decide +kernel
theorem dX12_common_178 : decode cX12_common 178 = .ok (.iload 10, 2) := by decide +kernel
theorem dX12_common_180 : decode cX12_common 180 = .ok (.ifCond .eq 24, 3) := by decide +kernel
theorem dX12_common_183 : decode cX12_common 183 = .ok (.aload_n 0, 1) := by decide +kernel
theorem dX12_common_184 : decode cX12_common 184 = .ok (.getfield 47, 3) := by decide +kernel
theorem dX12_common_187 : decode cX12_common 187 = .ok (.bipush 21, 2) := by decide +kernel
theorem dX12_common_189 : decode cX12_common 189 = .ok (.iload 8, 2) := by decide +kernel
theorem dX12_common_191 : decode cX12_common 191 = .ok (.imul, 1) := by decide +kernel
theorem dX12_common_192 : decode cX12_common 192 = .ok (.bipush 22, 2) := by decide +kernel
theorem dX12_common_194 : decode cX12_common 194 = .ok (.isub, 1) := by decide +kernel
theorem dX12_common_195 : decode cX12_common 195 = .ok (.iload 9, 2) := by decide +kernel
theorem dX12_common_197 : decode cX12_common 197 = .ok (.iadd, 1) := by decide +kernel
theorem dX12_common_198 : decode cX12_common 198 = .ok (.iaload, 1) := by decide +kernel
theorem dX12_common_199 : decode cX12_common 199 = .ok (.iconst 1, 1) := by decide +kernel
theorem dX12_common_200 : decode cX12_common 200 = .ok (.iadd, 1) := by decide +kernel
theorem dX12_common_201 : decode cX12_common 201 = .ok (.goto 5, 3) := by decide +kernel
theorem dX12_common_204 : decode cX12_common 204 = .ok (.iload 11, 2) := by decide +kernel
theorem dX12_common_206 : decode cX12_common 206 = .ok (.iastore, 1) := by decide +kernel
theorem dX12_common_207 : decode cX12_common 207 = .ok (.iinc 9 1, 3) := by decide +kernel
theorem dX12_common_210 : decode cX12_common 210 = .ok (.goto (-119), 3) := by decide +kernel
theorem dX12_common_213 : decode cX12_common 213 = .ok (.iinc 8 1, 3) := by decide +kernel
theorem dX12_common_216 : decode cX12_common 216 = .ok (.goto (-135), 3) := by decide +kernel
theorem dX12_common_219 : decode cX12_common 219 = .ok (.aload_n 0, 1) := by decide +kernel
theorem dX12_common_220 : decode cX12_common 220 = .ok (.getfield 47, 3) := by decide +kernel
theorem dX12_common_223 : decode cX12_common 223 = .ok (.bipush 21, 2) := by decide +kernel
theorem dX12_common_225 : decode cX12_common 225 = .ok (.iload 6, 2) := by decide +kernel
theorem dX12_common_227 : decode cX12_common 227 = .ok (.imul, 1) := by decide +kernel
theorem dX12_common_228 : decode cX12_common 228 = .ok (.iload 7, 2) := by decide +kernel
theorem dX12_common_230 : decode cX12_common 230 = .ok (.iadd, 1) := by decide +kernel
theorem dX12_common_231 : decode cX12_common 231 = .ok (.iaload, 1) := by decide +kernel
theorem dX12_common_232 : decode cX12_common 232 = .ok (.ireturn, 1) := by decide +kernel
theorem dX12_askedMany_0 : decode cX12_askedMany 0 = .ok (.aload_n 0, 1) := by decide +kernel
theorem dX12_askedMany_1 : decode cX12_askedMany 1 = .ok (.getfield 29, 3) := by decide +kernel
theorem dX12_askedMany_4 : decode cX12_askedMany 4 = .ok (.bipush 57, 2) := by decide +kernel
theorem dX12_askedMany_6 : decode cX12_askedMany 6 = .ok (.aload_n 0, 1) := by decide +kernel
theorem dX12_askedMany_7 : decode cX12_askedMany 7 = .ok (.getfield 368, 3) := by decide +kernel
theorem dX12_askedMany_10 : decode cX12_askedMany 10 = .ok (.imul, 1) := by decide +kernel
theorem dX12_askedMany_11 : decode cX12_askedMany 11 = .ok (.iaload, 1) := by decide +kernel
theorem dX12_askedMany_12 : decode cX12_askedMany 12 = .ok (.ireturn, 1) := by decide +kernel
theorem dX12_ofAsking_0 : decode cX12_ofAsking 0 = .ok (.aload_n 0, 1) := by decide +kernel
theorem dX12_ofAsking_1 : decode cX12_ofAsking 1 = .ok (.getfield 29, 3) := by decide +kernel
theorem dX12_ofAsking_4 : decode cX12_ofAsking 4 = .ok (.bipush 57, 2) := by decide +kernel
theorem dX12_ofAsking_6 : decode cX12_ofAsking 6 = .ok (.aload_n 0, 1) := by decide +kernel
theorem dX12_ofAsking_7 : decode cX12_ofAsking 7 = .ok (.getfield 368, 3) := by decide +kernel
theorem dX12_ofAsking_10 : decode cX12_ofAsking 10 = .ok (.imul, 1) := by decide +kernel
theorem dX12_ofAsking_11 : decode cX12_ofAsking 11 = .ok (.iconst 1, 1) := by decide +kernel
theorem dX12_ofAsking_12 : decode cX12_ofAsking 12 = .ok (.iadd, 1) := by decide +kernel
theorem dX12_ofAsking_13 : decode cX12_ofAsking 13 = .ok (.bipush 7, 2) := by decide +kernel
theorem dX12_ofAsking_15 : decode cX12_ofAsking 15 = .ok (.iload_n 1, 1) := by decide +kernel
theorem dX12_ofAsking_16 : decode cX12_ofAsking 16 = .ok (.imul, 1) := by decide +kernel
theorem dX12_ofAsking_17 : decode cX12_ofAsking 17 = .ok (.iadd, 1) := by decide +kernel
theorem dX12_ofAsking_18 : decode cX12_ofAsking 18 = .ok (.iload_n 2, 1) := by decide +kernel
theorem dX12_ofAsking_19 : decode cX12_ofAsking 19 = .ok (.iadd, 1) := by decide +kernel
theorem dX12_ofAsking_20 : decode cX12_ofAsking 20 = .ok (.iaload, 1) := by decide +kernel
theorem dX12_ofAsking_21 : decode cX12_ofAsking 21 = .ok (.ireturn, 1) := by decide +kernel
theorem dX12_hasAsking_0 : decode cX12_hasAsking 0 = .ok (.aload_n 0, 1) := by decide +kernel
theorem dX12_hasAsking_1 : decode cX12_hasAsking 1 = .ok (.iload_n 1, 1) := by decide +kernel
theorem dX12_hasAsking_2 : decode cX12_hasAsking 2 = .ok (.putfield 368, 3) := by decide +kernel
theorem dX12_hasAsking_5 : decode cX12_hasAsking 5 = .ok (.aload_n 0, 1) := by decide +kernel
theorem dX12_hasAsking_6 : decode cX12_hasAsking 6 = .ok (.iconst 1, 1) := by decide +kernel
theorem dX12_hasAsking_7 : decode cX12_hasAsking 7 = .ok (.iload_n 1, 1) := by decide +kernel
theorem dX12_hasAsking_8 : decode cX12_hasAsking 8 = .ok (.invokevirtual 243, 3) := by decide +kernel
theorem dX12_hasAsking_11 : decode cX12_hasAsking 11 = .ok (.ireturn, 1) := by decide +kernel
theorem dX12_wordsOf_0 : decode cX12_wordsOf 0 = .ok (.aload_n 0, 1) := by decide +kernel
theorem dX12_wordsOf_1 : decode cX12_wordsOf 1 = .ok (.iload_n 1, 1) := by decide +kernel
theorem dX12_wordsOf_2 : decode cX12_wordsOf 2 = .ok (.iconst 0, 1) := by decide +kernel
theorem dX12_wordsOf_3 : decode cX12_wordsOf 3 = .ok (.invokevirtual 371, 3) := by decide +kernel
theorem dX12_wordsOf_6 : decode cX12_wordsOf 6 = .ok (.istore_n 2, 1) := by decide +kernel
theorem dX12_wordsOf_7 : decode cX12_wordsOf 7 = .ok (.iload_n 2, 1) := by decide +kernel
theorem dX12_wordsOf_8 : decode cX12_wordsOf 8 = .ok (.ifCond .ne 12, 3) := by decide +kernel
theorem dX12_wordsOf_11 : decode cX12_wordsOf 11 = .ok (.aload_n 0, 1) := by decide +kernel
theorem dX12_wordsOf_12 : decode cX12_wordsOf 12 = .ok (.iload_n 1, 1) := by decide +kernel
theorem dX12_wordsOf_13 : decode cX12_wordsOf 13 = .ok (.iconst 1, 1) := by decide +kernel
theorem dX12_wordsOf_14 : decode cX12_wordsOf 14 = .ok (.invokevirtual 371, 3) := by decide +kernel
theorem dX12_wordsOf_17 : decode cX12_wordsOf 17 = .ok (.goto 22, 3) := by decide +kernel
theorem dX12_wordsOf_20 : decode cX12_wordsOf 20 = .ok (.iload_n 2, 1) := by decide +kernel
theorem dX12_wordsOf_21 : decode cX12_wordsOf 21 = .ok (.iconst 1, 1) := by decide +kernel
theorem dX12_wordsOf_22 : decode cX12_wordsOf 22 = .ok (.if_icmp .ne 7, 3) := by decide +kernel
theorem dX12_wordsOf_25 : decode cX12_wordsOf 25 = .ok (.iconst 2, 1) := by decide +kernel
theorem dX12_wordsOf_26 : decode cX12_wordsOf 26 = .ok (.goto 13, 3) := by decide +kernel
theorem dX12_wordsOf_29 : decode cX12_wordsOf 29 = .ok (.iload_n 2, 1) := by decide +kernel
theorem dX12_wordsOf_30 : decode cX12_wordsOf 30 = .ok (.iconst 2, 1) := by decide +kernel
theorem dX12_wordsOf_31 : decode cX12_wordsOf 31 = .ok (.if_icmp .ne 7, 3) := by decide +kernel
theorem dX12_wordsOf_34 : decode cX12_wordsOf 34 = .ok (.iconst 1, 1) := by decide +kernel
theorem dX12_wordsOf_35 : decode cX12_wordsOf 35 = .ok (.goto 4, 3) := by decide +kernel
theorem dX12_wordsOf_38 : decode cX12_wordsOf 38 = .ok (.iconst 0, 1) := by decide +kernel
theorem dX12_wordsOf_39 : decode cX12_wordsOf 39 = .ok (.ireturn, 1) := by decide +kernel
theorem dX12_question_0 : decode cX12_question 0 = .ok (.aload_n 0, 1) := by decide +kernel
theorem dX12_question_1 : decode cX12_question 1 = .ok (.iconst 0, 1) := by decide +kernel
theorem dX12_question_2 : decode cX12_question 2 = .ok (.putfield 60, 3) := by decide +kernel
theorem dX12_question_5 : decode cX12_question 5 = .ok (.aload_n 0, 1) := by decide +kernel
theorem dX12_question_6 : decode cX12_question 6 = .ok (.iload_n 1, 1) := by decide +kernel
theorem dX12_question_7 : decode cX12_question 7 = .ok (.invokevirtual 374, 3) := by decide +kernel
theorem dX12_question_10 : decode cX12_question 10 = .ok (.ifCond .ne 6, 3) := by decide +kernel
theorem dX12_question_13 : decode cX12_question 13 = .ok (.bipush (-2), 2) := by decide +kernel
theorem dX12_question_15 : decode cX12_question 15 = .ok (.ireturn, 1) := by decide +kernel
theorem dX12_question_16 : decode cX12_question 16 = .ok (.iload_n 2, 1) := by decide +kernel
theorem dX12_question_17 : decode cX12_question 17 = .ok (.iconst (-1), 1) := by decide +kernel
theorem dX12_question_18 : decode cX12_question 18 = .ok (.if_icmp .ne 17, 3) := by decide +kernel
theorem dX12_question_21 : decode cX12_question 21 = .ok (.iload_n 3, 1) := by decide +kernel
theorem dX12_question_22 : decode cX12_question 22 = .ok (.ifCond .ne 10, 3) := by decide +kernel
theorem dX12_question_25 : decode cX12_question 25 = .ok (.aload_n 0, 1) := by decide +kernel
theorem dX12_question_26 : decode cX12_question 26 = .ok (.invokevirtual 377, 3) := by decide +kernel
theorem dX12_question_29 : decode cX12_question 29 = .ok (.goto 5, 3) := by decide +kernel
theorem dX12_question_32 : decode cX12_question 32 = .ok (.bipush (-2), 2) := by decide +kernel
theorem dX12_question_34 : decode cX12_question 34 = .ok (.ireturn, 1) := by decide +kernel
theorem dX12_question_35 : decode cX12_question 35 = .ok (.iload_n 2, 1) := by decide +kernel
theorem dX12_question_36 : decode cX12_question 36 = .ok (.iconst 0, 1) := by decide +kernel
theorem dX12_question_37 : decode cX12_question 37 = .ok (.aload_n 0, 1) := by decide +kernel
theorem dX12_question_38 : decode cX12_question 38 = .ok (.invokevirtual 377, 3) := by decide +kernel
theorem dX12_question_41 : decode cX12_question 41 = .ok (.iconst 1, 1) := by decide +kernel
theorem dX12_question_42 : decode cX12_question 42 = .ok (.isub, 1) := by decide +kernel
theorem dX12_question_43 : decode cX12_question 43 = .ok (.invokestatic 72, 3) := by decide +kernel
theorem dX12_question_46 : decode cX12_question 46 = .ok (.ifCond .ne 6, 3) := by decide +kernel
theorem dX12_question_49 : decode cX12_question 49 = .ok (.bipush (-2), 2) := by decide +kernel
theorem dX12_question_51 : decode cX12_question 51 = .ok (.ireturn, 1) := by decide +kernel
theorem dX12_question_52 : decode cX12_question 52 = .ok (.iload_n 3, 1) := by decide +kernel
theorem dX12_question_53 : decode cX12_question 53 = .ok (.bipush 10, 2) := by decide +kernel
theorem dX12_question_55 : decode cX12_question 55 = .ok (.if_icmp .lt 32, 3) := by decide +kernel
theorem dX12_question_58 : decode cX12_question 58 = .ok (.iload_n 3, 1) := by decide +kernel
theorem dX12_question_59 : decode cX12_question 59 = .ok (.bipush 10, 2) := by decide +kernel
theorem dX12_question_61 : decode cX12_question 61 = .ok (.isub, 1) := by decide +kernel
theorem dX12_question_62 : decode cX12_question 62 = .ok (.aload_n 0, 1) := by decide +kernel
theorem dX12_question_63 : decode cX12_question 63 = .ok (.iload_n 2, 1) := by decide +kernel
theorem dX12_question_64 : decode cX12_question 64 = .ok (.invokevirtual 380, 3) := by decide +kernel
theorem dX12_question_67 : decode cX12_question 67 = .ok (.if_icmp .ge 17, 3) := by decide +kernel
theorem dX12_question_70 : decode cX12_question 70 = .ok (.aload_n 0, 1) := by decide +kernel
theorem dX12_question_71 : decode cX12_question 71 = .ok (.iload_n 2, 1) := by decide +kernel
theorem dX12_question_72 : decode cX12_question 72 = .ok (.iconst 3, 1) := by decide +kernel
theorem dX12_question_73 : decode cX12_question 73 = .ok (.iload_n 3, 1) := by decide +kernel
theorem dX12_question_74 : decode cX12_question 74 = .ok (.iadd, 1) := by decide +kernel
theorem dX12_question_75 : decode cX12_question 75 = .ok (.bipush 10, 2) := by decide +kernel
theorem dX12_question_77 : decode cX12_question 77 = .ok (.isub, 1) := by decide +kernel
theorem dX12_question_78 : decode cX12_question 78 = .ok (.invokevirtual 371, 3) := by decide +kernel
theorem dX12_question_81 : decode cX12_question 81 = .ok (.goto 5, 3) := by decide +kernel
theorem dX12_question_84 : decode cX12_question 84 = .ok (.bipush (-2), 2) := by decide +kernel
theorem dX12_question_86 : decode cX12_question 86 = .ok (.ireturn, 1) := by decide +kernel
theorem dX12_question_87 : decode cX12_question 87 = .ok (.iload_n 3, 1) := by decide +kernel
theorem dX12_question_88 : decode cX12_question 88 = .ok (.iconst 0, 1) := by decide +kernel
theorem dX12_question_89 : decode cX12_question 89 = .ok (.iconst 2, 1) := by decide +kernel
theorem dX12_question_90 : decode cX12_question 90 = .ok (.invokestatic 72, 3) := by decide +kernel
theorem dX12_question_93 : decode cX12_question 93 = .ok (.ifCond .eq 12, 3) := by decide +kernel
theorem dX12_question_96 : decode cX12_question 96 = .ok (.aload_n 0, 1) := by decide +kernel
theorem dX12_question_97 : decode cX12_question 97 = .ok (.iload_n 2, 1) := by decide +kernel
theorem dX12_question_98 : decode cX12_question 98 = .ok (.iload_n 3, 1) := by decide +kernel
theorem dX12_question_99 : decode cX12_question 99 = .ok (.invokevirtual 371, 3) := by decide +kernel
theorem dX12_question_102 : decode cX12_question 102 = .ok (.goto 5, 3) := by decide +kernel
theorem dX12_question_105 : decode cX12_question 105 = .ok (.bipush (-2), 2) := by decide +kernel
theorem dX12_question_107 : decode cX12_question 107 = .ok (.ireturn, 1) := by decide +kernel
theorem dX12_beginsAt_0 : decode cX12_beginsAt 0 = .ok (.aload_n 0, 1) := by decide +kernel
theorem dX12_beginsAt_1 : decode cX12_beginsAt 1 = .ok (.iload_n 1, 1) := by decide +kernel
theorem dX12_beginsAt_2 : decode cX12_beginsAt 2 = .ok (.iconst 1, 1) := by decide +kernel
theorem dX12_beginsAt_3 : decode cX12_beginsAt 3 = .ok (.invokevirtual 371, 3) := by decide +kernel
theorem dX12_beginsAt_6 : decode cX12_beginsAt 6 = .ok (.istore 5, 2) := by decide +kernel
theorem dX12_beginsAt_8 : decode cX12_beginsAt 8 = .ok (.iload 4, 2) := by decide +kernel
theorem dX12_beginsAt_10 : decode cX12_beginsAt 10 = .ok (.iload 5, 2) := by decide +kernel
theorem dX12_beginsAt_12 : decode cX12_beginsAt 12 = .ok (.iadd, 1) := by decide +kernel
theorem dX12_beginsAt_13 : decode cX12_beginsAt 13 = .ok (.aload_n 0, 1) := by decide +kernel
theorem dX12_beginsAt_14 : decode cX12_beginsAt 14 = .ok (.iload_n 2, 1) := by decide +kernel
theorem dX12_beginsAt_15 : decode cX12_beginsAt 15 = .ok (.iload_n 3, 1) := by decide +kernel
theorem dX12_beginsAt_16 : decode cX12_beginsAt 16 = .ok (.invokevirtual 269, 3) := by decide +kernel
theorem dX12_beginsAt_19 : decode cX12_beginsAt 19 = .ok (.if_icmp .gt 7, 3) := by decide +kernel
theorem dX12_beginsAt_22 : decode cX12_beginsAt 22 = .ok (.iconst 1, 1) := by decide +kernel
theorem dX12_beginsAt_23 : decode cX12_beginsAt 23 = .ok (.goto 4, 3) := by decide +kernel
theorem dX12_beginsAt_26 : decode cX12_beginsAt 26 = .ok (.iconst 0, 1) := by decide +kernel
theorem dX12_beginsAt_27 : decode cX12_beginsAt 27 = .ok (.istore 6, 2) := by decide +kernel
theorem dX12_beginsAt_29 : decode cX12_beginsAt 29 = .ok (.iconst 0, 1) := by decide +kernel
theorem dX12_beginsAt_30 : decode cX12_beginsAt 30 = .ok (.istore 7, 2) := by decide +kernel
theorem dX12_beginsAt_32 : decode cX12_beginsAt 32 = .ok (.iload 7, 2) := by decide +kernel
theorem dX12_beginsAt_34 : decode cX12_beginsAt 34 = .ok (.iload 5, 2) := by decide +kernel
theorem dX12_beginsAt_36 : decode cX12_beginsAt 36 = .ok (.if_icmp .ge 44, 3) := by decide +kernel
theorem dX12_beginsAt_39 : decode cX12_beginsAt 39 = .ok (.iload 6, 2) := by decide +kernel
theorem dX12_beginsAt_41 : decode cX12_beginsAt 41 = .ok (.ifCond .eq 39, 3) := by decide +kernel
theorem dX12_beginsAt_44 : decode cX12_beginsAt 44 = .ok (.aload_n 0, 1) := by decide +kernel
theorem dX12_beginsAt_45 : decode cX12_beginsAt 45 = .ok (.iload_n 2, 1) := by decide +kernel
theorem dX12_beginsAt_46 : decode cX12_beginsAt 46 = .ok (.iload_n 3, 1) := by decide +kernel
theorem dX12_beginsAt_47 : decode cX12_beginsAt 47 = .ok (.iload 4, 2) := by decide +kernel
theorem dX12_beginsAt_49 : decode cX12_beginsAt 49 = .ok (.iload 7, 2) := by decide +kernel
theorem dX12_beginsAt_51 : decode cX12_beginsAt 51 = .ok (.iadd, 1) := by decide +kernel
theorem dX12_beginsAt_52 : decode cX12_beginsAt 52 = .ok (.invokevirtual 275, 3) := by decide +kernel
theorem dX12_beginsAt_55 : decode cX12_beginsAt 55 = .ok (.aload_n 0, 1) := by decide +kernel
theorem dX12_beginsAt_56 : decode cX12_beginsAt 56 = .ok (.iload_n 1, 1) := by decide +kernel
theorem dX12_beginsAt_57 : decode cX12_beginsAt 57 = .ok (.iconst 3, 1) := by decide +kernel
theorem dX12_beginsAt_58 : decode cX12_beginsAt 58 = .ok (.iload 7, 2) := by decide +kernel
theorem dX12_beginsAt_60 : decode cX12_beginsAt 60 = .ok (.iadd, 1) := by decide +kernel
theorem dX12_beginsAt_61 : decode cX12_beginsAt 61 = .ok (.invokevirtual 371, 3) := by decide +kernel
theorem dX12_beginsAt_64 : decode cX12_beginsAt 64 = .ok (.if_icmp .ne 7, 3) := by decide +kernel
theorem dX12_beginsAt_67 : decode cX12_beginsAt 67 = .ok (.iconst 1, 1) := by decide +kernel
theorem dX12_beginsAt_68 : decode cX12_beginsAt 68 = .ok (.goto 4, 3) := by decide +kernel
theorem dX12_beginsAt_71 : decode cX12_beginsAt 71 = .ok (.iconst 0, 1) := by decide +kernel
theorem dX12_beginsAt_72 : decode cX12_beginsAt 72 = .ok (.istore 6, 2) := by decide +kernel
theorem dX12_beginsAt_74 : decode cX12_beginsAt 74 = .ok (.iinc 7 1, 3) := by decide +kernel
theorem dX12_beginsAt_77 : decode cX12_beginsAt 77 = .ok (.goto (-45), 3) := by decide +kernel
theorem dX12_beginsAt_80 : decode cX12_beginsAt 80 = .ok (.iload 6, 2) := by decide +kernel
theorem dX12_beginsAt_82 : decode cX12_beginsAt 82 = .ok (.ireturn, 1) := by decide +kernel
theorem dX12_timesOf_0 : decode cX12_timesOf 0 = .ok (.iconst 0, 1) := by decide +kernel
theorem dX12_timesOf_1 : decode cX12_timesOf 1 = .ok (.istore 4, 2) := by decide +kernel
theorem dX12_timesOf_3 : decode cX12_timesOf 3 = .ok (.iconst 0, 1) := by decide +kernel
theorem dX12_timesOf_4 : decode cX12_timesOf 4 = .ok (.istore 5, 2) := by decide +kernel
theorem dX12_timesOf_6 : decode cX12_timesOf 6 = .ok (.iload 5, 2) := by decide +kernel
theorem dX12_timesOf_8 : decode cX12_timesOf 8 = .ok (.aload_n 0, 1) := by decide +kernel
theorem dX12_timesOf_9 : decode cX12_timesOf 9 = .ok (.iload_n 2, 1) := by decide +kernel
theorem dX12_timesOf_10 : decode cX12_timesOf 10 = .ok (.iload_n 3, 1) := by decide +kernel
theorem dX12_timesOf_11 : decode cX12_timesOf 11 = .ok (.invokevirtual 269, 3) := by decide +kernel
theorem dX12_timesOf_14 : decode cX12_timesOf 14 = .ok (.if_icmp .ge 31, 3) := by decide +kernel
theorem dX12_timesOf_17 : decode cX12_timesOf 17 = .ok (.iload 4, 2) := by decide +kernel
theorem dX12_timesOf_19 : decode cX12_timesOf 19 = .ok (.aload_n 0, 1) := by decide +kernel
theorem dX12_timesOf_20 : decode cX12_timesOf 20 = .ok (.iload_n 1, 1) := by decide +kernel
theorem dX12_timesOf_21 : decode cX12_timesOf 21 = .ok (.iload_n 2, 1) := by decide +kernel
theorem dX12_timesOf_22 : decode cX12_timesOf 22 = .ok (.iload_n 3, 1) := by decide +kernel
theorem dX12_timesOf_23 : decode cX12_timesOf 23 = .ok (.iload 5, 2) := by decide +kernel
theorem dX12_timesOf_25 : decode cX12_timesOf 25 = .ok (.invokevirtual 383, 3) := by decide +kernel
theorem dX12_timesOf_28 : decode cX12_timesOf 28 = .ok (.ifCond .eq 7, 3) := by decide +kernel
theorem dX12_timesOf_31 : decode cX12_timesOf 31 = .ok (.iconst 1, 1) := by decide +kernel
theorem dX12_timesOf_32 : decode cX12_timesOf 32 = .ok (.goto 4, 3) := by decide +kernel
theorem dX12_timesOf_35 : decode cX12_timesOf 35 = .ok (.iconst 0, 1) := by decide +kernel
theorem dX12_timesOf_36 : decode cX12_timesOf 36 = .ok (.iadd, 1) := by decide +kernel
theorem dX12_timesOf_37 : decode cX12_timesOf 37 = .ok (.istore 4, 2) := by decide +kernel
theorem dX12_timesOf_39 : decode cX12_timesOf 39 = .ok (.iinc 5 1, 3) := by decide +kernel
theorem dX12_timesOf_42 : decode cX12_timesOf 42 = .ok (.goto (-36), 3) := by decide +kernel
theorem dX12_timesOf_45 : decode cX12_timesOf 45 = .ok (.iload 4, 2) := by decide +kernel
theorem dX12_timesOf_47 : decode cX12_timesOf 47 = .ok (.ireturn, 1) := by decide +kernel
theorem dX12_areNear_0 : decode cX12_areNear 0 = .ok (.iconst 0, 1) := by decide +kernel
theorem dX12_areNear_1 : decode cX12_areNear 1 = .ok (.istore 4, 2) := by decide +kernel
theorem dX12_areNear_3 : decode cX12_areNear 3 = .ok (.iconst 0, 1) := by decide +kernel
theorem dX12_areNear_4 : decode cX12_areNear 4 = .ok (.istore 5, 2) := by decide +kernel
theorem dX12_areNear_6 : decode cX12_areNear 6 = .ok (.iload 5, 2) := by decide +kernel
theorem dX12_areNear_8 : decode cX12_areNear 8 = .ok (.aload_n 0, 1) := by decide +kernel
theorem dX12_areNear_9 : decode cX12_areNear 9 = .ok (.iload_n 2, 1) := by decide +kernel
theorem dX12_areNear_10 : decode cX12_areNear 10 = .ok (.iload_n 3, 1) := by decide +kernel
theorem dX12_areNear_11 : decode cX12_areNear 11 = .ok (.invokevirtual 269, 3) := by decide +kernel
theorem dX12_areNear_14 : decode cX12_areNear 14 = .ok (.if_icmp .ge 112, 3) := by decide +kernel
theorem dX12_areNear_17 : decode cX12_areNear 17 = .ok (.iconst 0, 1) := by decide +kernel
theorem dX12_areNear_18 : decode cX12_areNear 18 = .ok (.istore 6, 2) := by decide +kernel
theorem dX12_areNear_20 : decode cX12_areNear 20 = .ok (.iload 6, 2) := by decide +kernel
theorem dX12_areNear_22 : decode cX12_areNear 22 = .ok (.aload_n 0, 1) := by decide +kernel
theorem dX12_areNear_23 : decode cX12_areNear 23 = .ok (.iload_n 2, 1) := by decide +kernel
theorem dX12_areNear_24 : decode cX12_areNear 24 = .ok (.iload_n 3, 1) := by decide +kernel
theorem dX12_areNear_25 : decode cX12_areNear 25 = .ok (.invokevirtual 269, 3) := by decide +kernel
theorem dX12_areNear_28 : decode cX12_areNear 28 = .ok (.if_icmp .ge 92, 3) := by decide +kernel
theorem dX12_areNear_31 : decode cX12_areNear 31 = .ok (.iload 5, 2) := by decide +kernel
theorem dX12_areNear_33 : decode cX12_areNear 33 = .ok (.iload 6, 2) := by decide +kernel
theorem dX12_areNear_35 : decode cX12_areNear 35 = .ok (.if_icmp .ge 11, 3) := by decide +kernel
theorem dX12_areNear_38 : decode cX12_areNear 38 = .ok (.iload 6, 2) := by decide +kernel
theorem dX12_areNear_40 : decode cX12_areNear 40 = .ok (.iload 5, 2) := by decide +kernel
theorem dX12_areNear_42 : decode cX12_areNear 42 = .ok (.isub, 1) := by decide +kernel
theorem dX12_areNear_43 : decode cX12_areNear 43 = .ok (.goto 8, 3) := by decide +kernel
theorem dX12_areNear_46 : decode cX12_areNear 46 = .ok (.iload 5, 2) := by decide +kernel
theorem dX12_areNear_48 : decode cX12_areNear 48 = .ok (.iload 6, 2) := by decide +kernel
theorem dX12_areNear_50 : decode cX12_areNear 50 = .ok (.isub, 1) := by decide +kernel
theorem dX12_areNear_51 : decode cX12_areNear 51 = .ok (.istore 7, 2) := by decide +kernel
theorem dX12_areNear_53 : decode cX12_areNear 53 = .ok (.iload 4, 2) := by decide +kernel
theorem dX12_areNear_55 : decode cX12_areNear 55 = .ok (.ifCond .ne 52, 3) := by decide +kernel
theorem dX12_areNear_58 : decode cX12_areNear 58 = .ok (.iload 7, 2) := by decide +kernel
theorem dX12_areNear_60 : decode cX12_areNear 60 = .ok (.iconst 1, 1) := by decide +kernel
theorem dX12_areNear_61 : decode cX12_areNear 61 = .ok (.aload_n 0, 1) := by decide +kernel
theorem dX12_areNear_62 : decode cX12_areNear 62 = .ok (.iload_n 1, 1) := by decide +kernel
theorem dX12_areNear_63 : decode cX12_areNear 63 = .ok (.iconst 1, 1) := by decide +kernel
theorem dX12_areNear_64 : decode cX12_areNear 64 = .ok (.invokevirtual 371, 3) := by decide +kernel
theorem dX12_areNear_67 : decode cX12_areNear 67 = .ok (.invokestatic 72, 3) := by decide +kernel
theorem dX12_areNear_70 : decode cX12_areNear 70 = .ok (.ifCond .eq 41, 3) := by decide +kernel
theorem dX12_areNear_73 : decode cX12_areNear 73 = .ok (.aload_n 0, 1) := by decide +kernel
theorem dX12_areNear_74 : decode cX12_areNear 74 = .ok (.iload_n 2, 1) := by decide +kernel
theorem dX12_areNear_75 : decode cX12_areNear 75 = .ok (.iload_n 3, 1) := by decide +kernel
theorem dX12_areNear_76 : decode cX12_areNear 76 = .ok (.iload 5, 2) := by decide +kernel
theorem dX12_areNear_78 : decode cX12_areNear 78 = .ok (.invokevirtual 275, 3) := by decide +kernel
theorem dX12_areNear_81 : decode cX12_areNear 81 = .ok (.aload_n 0, 1) := by decide +kernel
theorem dX12_areNear_82 : decode cX12_areNear 82 = .ok (.iload_n 1, 1) := by decide +kernel
theorem dX12_areNear_83 : decode cX12_areNear 83 = .ok (.iconst 3, 1) := by decide +kernel
theorem dX12_areNear_84 : decode cX12_areNear 84 = .ok (.invokevirtual 371, 3) := by decide +kernel
theorem dX12_areNear_87 : decode cX12_areNear 87 = .ok (.if_icmp .ne 24, 3) := by decide +kernel
theorem dX12_areNear_90 : decode cX12_areNear 90 = .ok (.aload_n 0, 1) := by decide +kernel
theorem dX12_areNear_91 : decode cX12_areNear 91 = .ok (.iload_n 2, 1) := by decide +kernel
theorem dX12_areNear_92 : decode cX12_areNear 92 = .ok (.iload_n 3, 1) := by decide +kernel
theorem dX12_areNear_93 : decode cX12_areNear 93 = .ok (.iload 6, 2) := by decide +kernel
theorem dX12_areNear_95 : decode cX12_areNear 95 = .ok (.invokevirtual 275, 3) := by decide +kernel
theorem dX12_areNear_98 : decode cX12_areNear 98 = .ok (.aload_n 0, 1) := by decide +kernel
theorem dX12_areNear_99 : decode cX12_areNear 99 = .ok (.iload_n 1, 1) := by decide +kernel
theorem dX12_areNear_100 : decode cX12_areNear 100 = .ok (.iconst 4, 1) := by decide +kernel
theorem dX12_areNear_101 : decode cX12_areNear 101 = .ok (.invokevirtual 371, 3) := by decide +kernel
theorem dX12_areNear_104 : decode cX12_areNear 104 = .ok (.if_icmp .ne 7, 3) := by decide +kernel
theorem dX12_areNear_107 : decode cX12_areNear 107 = .ok (.iconst 1, 1) := by decide +kernel
theorem dX12_areNear_108 : decode cX12_areNear 108 = .ok (.goto 4, 3) := by decide +kernel
theorem dX12_areNear_111 : decode cX12_areNear 111 = .ok (.iconst 0, 1) := by decide +kernel
theorem dX12_areNear_112 : decode cX12_areNear 112 = .ok (.istore 4, 2) := by decide +kernel
theorem dX12_areNear_114 : decode cX12_areNear 114 = .ok (.iinc 6 1, 3) := by decide +kernel
theorem dX12_areNear_117 : decode cX12_areNear 117 = .ok (.goto (-97), 3) := by decide +kernel
theorem dX12_areNear_120 : decode cX12_areNear 120 = .ok (.iinc 5 1, 3) := by decide +kernel
theorem dX12_areNear_123 : decode cX12_areNear 123 = .ok (.goto (-117), 3) := by decide +kernel
theorem dX12_areNear_126 : decode cX12_areNear 126 = .ok (.iload 4, 2) := by decide +kernel
theorem dX12_areNear_128 : decode cX12_areNear 128 = .ok (.ireturn, 1) := by decide +kernel
theorem dX12_holdsBy_0 : decode cX12_holdsBy 0 = .ok (.aload_n 0, 1) := by decide +kernel
theorem dX12_holdsBy_1 : decode cX12_holdsBy 1 = .ok (.iload_n 1, 1) := by decide +kernel
theorem dX12_holdsBy_2 : decode cX12_holdsBy 2 = .ok (.iconst 1, 1) := by decide +kernel
theorem dX12_holdsBy_3 : decode cX12_holdsBy 3 = .ok (.invokevirtual 371, 3) := by decide +kernel
theorem dX12_holdsBy_6 : decode cX12_holdsBy 6 = .ok (.istore 4, 2) := by decide +kernel
theorem dX12_holdsBy_8 : decode cX12_holdsBy 8 = .ok (.aload_n 0, 1) := by decide +kernel
theorem dX12_holdsBy_9 : decode cX12_holdsBy 9 = .ok (.iload_n 1, 1) := by decide +kernel
theorem dX12_holdsBy_10 : decode cX12_holdsBy 10 = .ok (.iconst 2, 1) := by decide +kernel
theorem dX12_holdsBy_11 : decode cX12_holdsBy 11 = .ok (.invokevirtual 371, 3) := by decide +kernel
theorem dX12_holdsBy_14 : decode cX12_holdsBy 14 = .ok (.istore 5, 2) := by decide +kernel
theorem dX12_holdsBy_16 : decode cX12_holdsBy 16 = .ok (.aload_n 0, 1) := by decide +kernel
theorem dX12_holdsBy_17 : decode cX12_holdsBy 17 = .ok (.iload_n 1, 1) := by decide +kernel
theorem dX12_holdsBy_18 : decode cX12_holdsBy 18 = .ok (.iconst 0, 1) := by decide +kernel
theorem dX12_holdsBy_19 : decode cX12_holdsBy 19 = .ok (.invokevirtual 371, 3) := by decide +kernel
theorem dX12_holdsBy_22 : decode cX12_holdsBy 22 = .ok (.tableswitch 215 0 6 #[42, 58, 66, 89, 113, 139, 187], 42) := by decide +kernel
theorem dX12_holdsBy_64 : decode cX12_holdsBy 64 = .ok (.aload_n 0, 1) := by decide +kernel
theorem dX12_holdsBy_65 : decode cX12_holdsBy 65 = .ok (.iload_n 1, 1) := by decide +kernel
theorem dX12_holdsBy_66 : decode cX12_holdsBy 66 = .ok (.iload_n 2, 1) := by decide +kernel
theorem dX12_holdsBy_67 : decode cX12_holdsBy 67 = .ok (.iload_n 3, 1) := by decide +kernel
theorem dX12_holdsBy_68 : decode cX12_holdsBy 68 = .ok (.invokevirtual 386, 3) := by decide +kernel
theorem dX12_holdsBy_71 : decode cX12_holdsBy 71 = .ok (.ifCond .le 7, 3) := by decide +kernel
theorem dX12_holdsBy_74 : decode cX12_holdsBy 74 = .ok (.iconst 1, 1) := by decide +kernel
theorem dX12_holdsBy_75 : decode cX12_holdsBy 75 = .ok (.goto 4, 3) := by decide +kernel
theorem dX12_holdsBy_78 : decode cX12_holdsBy 78 = .ok (.iconst 0, 1) := by decide +kernel
theorem dX12_holdsBy_79 : decode cX12_holdsBy 79 = .ok (.ireturn, 1) := by decide +kernel
theorem dX12_holdsBy_80 : decode cX12_holdsBy 80 = .ok (.aload_n 0, 1) := by decide +kernel
theorem dX12_holdsBy_81 : decode cX12_holdsBy 81 = .ok (.iload_n 1, 1) := by decide +kernel
theorem dX12_holdsBy_82 : decode cX12_holdsBy 82 = .ok (.iload_n 2, 1) := by decide +kernel
theorem dX12_holdsBy_83 : decode cX12_holdsBy 83 = .ok (.iload_n 3, 1) := by decide +kernel
theorem dX12_holdsBy_84 : decode cX12_holdsBy 84 = .ok (.invokevirtual 389, 3) := by decide +kernel
theorem dX12_holdsBy_87 : decode cX12_holdsBy 87 = .ok (.ireturn, 1) := by decide +kernel
theorem dX12_holdsBy_88 : decode cX12_holdsBy 88 = .ok (.aload_n 0, 1) := by decide +kernel
theorem dX12_holdsBy_89 : decode cX12_holdsBy 89 = .ok (.iload_n 2, 1) := by decide +kernel
theorem dX12_holdsBy_90 : decode cX12_holdsBy 90 = .ok (.iload_n 3, 1) := by decide +kernel
theorem dX12_holdsBy_91 : decode cX12_holdsBy 91 = .ok (.aload_n 0, 1) := by decide +kernel
theorem dX12_holdsBy_92 : decode cX12_holdsBy 92 = .ok (.iload_n 1, 1) := by decide +kernel
theorem dX12_holdsBy_93 : decode cX12_holdsBy 93 = .ok (.iconst 3, 1) := by decide +kernel
theorem dX12_holdsBy_94 : decode cX12_holdsBy 94 = .ok (.invokevirtual 371, 3) := by decide +kernel
theorem dX12_holdsBy_97 : decode cX12_holdsBy 97 = .ok (.invokevirtual 362, 3) := by decide +kernel
theorem dX12_holdsBy_100 : decode cX12_holdsBy 100 = .ok (.iload 4, 2) := by decide +kernel
theorem dX12_holdsBy_102 : decode cX12_holdsBy 102 = .ok (.if_icmp .lt 7, 3) := by decide +kernel
theorem dX12_holdsBy_105 : decode cX12_holdsBy 105 = .ok (.iconst 1, 1) := by decide +kernel
theorem dX12_holdsBy_106 : decode cX12_holdsBy 106 = .ok (.goto 4, 3) := by decide +kernel
theorem dX12_holdsBy_109 : decode cX12_holdsBy 109 = .ok (.iconst 0, 1) := by decide +kernel
theorem dX12_holdsBy_110 : decode cX12_holdsBy 110 = .ok (.ireturn, 1) := by decide +kernel
theorem dX12_holdsBy_111 : decode cX12_holdsBy 111 = .ok (.aload_n 0, 1) := by decide +kernel
theorem dX12_holdsBy_112 : decode cX12_holdsBy 112 = .ok (.getfield 50, 3) := by decide +kernel
theorem dX12_holdsBy_115 : decode cX12_holdsBy 115 = .ok (.iconst 4, 1) := by decide +kernel
theorem dX12_holdsBy_116 : decode cX12_holdsBy 116 = .ok (.iload 4, 2) := by decide +kernel
theorem dX12_holdsBy_118 : decode cX12_holdsBy 118 = .ok (.imul, 1) := by decide +kernel
theorem dX12_holdsBy_119 : decode cX12_holdsBy 119 = .ok (.iload_n 2, 1) := by decide +kernel
theorem dX12_holdsBy_120 : decode cX12_holdsBy 120 = .ok (.iadd, 1) := by decide +kernel
theorem dX12_holdsBy_121 : decode cX12_holdsBy 121 = .ok (.iaload, 1) := by decide +kernel
theorem dX12_holdsBy_122 : decode cX12_holdsBy 122 = .ok (.iload_n 3, 1) := by decide +kernel
theorem dX12_holdsBy_123 : decode cX12_holdsBy 123 = .ok (.invokestatic 64, 3) := by decide +kernel
theorem dX12_holdsBy_126 : decode cX12_holdsBy 126 = .ok (.ifCond .ne 7, 3) := by decide +kernel
theorem dX12_holdsBy_129 : decode cX12_holdsBy 129 = .ok (.iconst 1, 1) := by decide +kernel
theorem dX12_holdsBy_130 : decode cX12_holdsBy 130 = .ok (.goto 4, 3) := by decide +kernel
theorem dX12_holdsBy_133 : decode cX12_holdsBy 133 = .ok (.iconst 0, 1) := by decide +kernel
theorem dX12_holdsBy_134 : decode cX12_holdsBy 134 = .ok (.ireturn, 1) := by decide +kernel
theorem dX12_holdsBy_135 : decode cX12_holdsBy 135 = .ok (.aload_n 0, 1) := by decide +kernel
theorem dX12_holdsBy_136 : decode cX12_holdsBy 136 = .ok (.getfield 50, 3) := by decide +kernel
theorem dX12_holdsBy_139 : decode cX12_holdsBy 139 = .ok (.iconst 4, 1) := by decide +kernel
theorem dX12_holdsBy_140 : decode cX12_holdsBy 140 = .ok (.iload 4, 2) := by decide +kernel
theorem dX12_holdsBy_142 : decode cX12_holdsBy 142 = .ok (.imul, 1) := by decide +kernel
theorem dX12_holdsBy_143 : decode cX12_holdsBy 143 = .ok (.iload_n 2, 1) := by decide +kernel
theorem dX12_holdsBy_144 : decode cX12_holdsBy 144 = .ok (.iadd, 1) := by decide +kernel
theorem dX12_holdsBy_145 : decode cX12_holdsBy 145 = .ok (.iaload, 1) := by decide +kernel
theorem dX12_holdsBy_146 : decode cX12_holdsBy 146 = .ok (.iconst 2, 1) := by decide +kernel
theorem dX12_holdsBy_147 : decode cX12_holdsBy 147 = .ok (.iload_n 3, 1) := by decide +kernel
theorem dX12_holdsBy_148 : decode cX12_holdsBy 148 = .ok (.ishl, 1) := by decide +kernel
theorem dX12_holdsBy_149 : decode cX12_holdsBy 149 = .ok (.iconst 1, 1) := by decide +kernel
theorem dX12_holdsBy_150 : decode cX12_holdsBy 150 = .ok (.isub, 1) := by decide +kernel
theorem dX12_holdsBy_151 : decode cX12_holdsBy 151 = .ok (.iand, 1) := by decide +kernel
theorem dX12_holdsBy_152 : decode cX12_holdsBy 152 = .ok (.ifCond .eq 7, 3) := by decide +kernel
theorem dX12_holdsBy_155 : decode cX12_holdsBy 155 = .ok (.iconst 1, 1) := by decide +kernel
theorem dX12_holdsBy_156 : decode cX12_holdsBy 156 = .ok (.goto 4, 3) := by decide +kernel
theorem dX12_holdsBy_159 : decode cX12_holdsBy 159 = .ok (.iconst 0, 1) := by decide +kernel
theorem dX12_holdsBy_160 : decode cX12_holdsBy 160 = .ok (.ireturn, 1) := by decide +kernel
theorem dX12_holdsBy_161 : decode cX12_holdsBy 161 = .ok (.aload_n 0, 1) := by decide +kernel
theorem dX12_holdsBy_162 : decode cX12_holdsBy 162 = .ok (.getfield 50, 3) := by decide +kernel
theorem dX12_holdsBy_165 : decode cX12_holdsBy 165 = .ok (.iconst 4, 1) := by decide +kernel
theorem dX12_holdsBy_166 : decode cX12_holdsBy 166 = .ok (.iload 4, 2) := by decide +kernel
theorem dX12_holdsBy_168 : decode cX12_holdsBy 168 = .ok (.imul, 1) := by decide +kernel
theorem dX12_holdsBy_169 : decode cX12_holdsBy 169 = .ok (.iload_n 2, 1) := by decide +kernel
theorem dX12_holdsBy_170 : decode cX12_holdsBy 170 = .ok (.iadd, 1) := by decide +kernel
theorem dX12_holdsBy_171 : decode cX12_holdsBy 171 = .ok (.iaload, 1) := by decide +kernel
theorem dX12_holdsBy_172 : decode cX12_holdsBy 172 = .ok (.iload_n 3, 1) := by decide +kernel
theorem dX12_holdsBy_173 : decode cX12_holdsBy 173 = .ok (.invokestatic 64, 3) := by decide +kernel
theorem dX12_holdsBy_176 : decode cX12_holdsBy 176 = .ok (.ifCond .eq 31, 3) := by decide +kernel
theorem dX12_holdsBy_179 : decode cX12_holdsBy 179 = .ok (.iload_n 3, 1) := by decide +kernel
theorem dX12_holdsBy_180 : decode cX12_holdsBy 180 = .ok (.ifCond .eq 23, 3) := by decide +kernel
theorem dX12_holdsBy_183 : decode cX12_holdsBy 183 = .ok (.aload_n 0, 1) := by decide +kernel
theorem dX12_holdsBy_184 : decode cX12_holdsBy 184 = .ok (.getfield 50, 3) := by decide +kernel
theorem dX12_holdsBy_187 : decode cX12_holdsBy 187 = .ok (.iconst 4, 1) := by decide +kernel
theorem dX12_holdsBy_188 : decode cX12_holdsBy 188 = .ok (.iload 4, 2) := by decide +kernel
theorem dX12_holdsBy_190 : decode cX12_holdsBy 190 = .ok (.imul, 1) := by decide +kernel
theorem dX12_holdsBy_191 : decode cX12_holdsBy 191 = .ok (.iload_n 2, 1) := by decide +kernel
theorem dX12_holdsBy_192 : decode cX12_holdsBy 192 = .ok (.iadd, 1) := by decide +kernel
theorem dX12_holdsBy_193 : decode cX12_holdsBy 193 = .ok (.iaload, 1) := by decide +kernel
theorem dX12_holdsBy_194 : decode cX12_holdsBy 194 = .ok (.iload_n 3, 1) := by decide +kernel
theorem dX12_holdsBy_195 : decode cX12_holdsBy 195 = .ok (.iconst 1, 1) := by decide +kernel
theorem dX12_holdsBy_196 : decode cX12_holdsBy 196 = .ok (.isub, 1) := by decide +kernel
theorem dX12_holdsBy_197 : decode cX12_holdsBy 197 = .ok (.invokestatic 64, 3) := by decide +kernel
theorem dX12_holdsBy_200 : decode cX12_holdsBy 200 = .ok (.ifCond .ne 7, 3) := by decide +kernel
theorem dX12_holdsBy_203 : decode cX12_holdsBy 203 = .ok (.iconst 1, 1) := by decide +kernel
theorem dX12_holdsBy_204 : decode cX12_holdsBy 204 = .ok (.goto 4, 3) := by decide +kernel
theorem dX12_holdsBy_207 : decode cX12_holdsBy 207 = .ok (.iconst 0, 1) := by decide +kernel
theorem dX12_holdsBy_208 : decode cX12_holdsBy 208 = .ok (.ireturn, 1) := by decide +kernel
theorem dX12_holdsBy_209 : decode cX12_holdsBy 209 = .ok (.aload_n 0, 1) := by decide +kernel
theorem dX12_holdsBy_210 : decode cX12_holdsBy 210 = .ok (.getfield 50, 3) := by decide +kernel
theorem dX12_holdsBy_213 : decode cX12_holdsBy 213 = .ok (.iconst 4, 1) := by decide +kernel
theorem dX12_holdsBy_214 : decode cX12_holdsBy 214 = .ok (.iload 4, 2) := by decide +kernel
theorem dX12_holdsBy_216 : decode cX12_holdsBy 216 = .ok (.imul, 1) := by decide +kernel
theorem dX12_holdsBy_217 : decode cX12_holdsBy 217 = .ok (.iload_n 2, 1) := by decide +kernel
theorem dX12_holdsBy_218 : decode cX12_holdsBy 218 = .ok (.iadd, 1) := by decide +kernel
theorem dX12_holdsBy_219 : decode cX12_holdsBy 219 = .ok (.iaload, 1) := by decide +kernel
theorem dX12_holdsBy_220 : decode cX12_holdsBy 220 = .ok (.aload_n 0, 1) := by decide +kernel
theorem dX12_holdsBy_221 : decode cX12_holdsBy 221 = .ok (.getfield 50, 3) := by decide +kernel
theorem dX12_holdsBy_224 : decode cX12_holdsBy 224 = .ok (.iconst 4, 1) := by decide +kernel
theorem dX12_holdsBy_225 : decode cX12_holdsBy 225 = .ok (.iload 5, 2) := by decide +kernel
theorem dX12_holdsBy_227 : decode cX12_holdsBy 227 = .ok (.imul, 1) := by decide +kernel
theorem dX12_holdsBy_228 : decode cX12_holdsBy 228 = .ok (.iload_n 2, 1) := by decide +kernel
theorem dX12_holdsBy_229 : decode cX12_holdsBy 229 = .ok (.iadd, 1) := by decide +kernel
theorem dX12_holdsBy_230 : decode cX12_holdsBy 230 = .ok (.iaload, 1) := by decide +kernel
theorem dX12_holdsBy_231 : decode cX12_holdsBy 231 = .ok (.iand, 1) := by decide +kernel
theorem dX12_holdsBy_232 : decode cX12_holdsBy 232 = .ok (.iload_n 3, 1) := by decide +kernel
theorem dX12_holdsBy_233 : decode cX12_holdsBy 233 = .ok (.invokestatic 64, 3) := by decide +kernel
theorem dX12_holdsBy_236 : decode cX12_holdsBy 236 = .ok (.ireturn, 1) := by decide +kernel
theorem dX12_holdsBy_237 : decode cX12_holdsBy 237 = .ok (.aload_n 0, 1) := by decide +kernel
theorem dX12_holdsBy_238 : decode cX12_holdsBy 238 = .ok (.getfield 50, 3) := by decide +kernel
theorem dX12_holdsBy_241 : decode cX12_holdsBy 241 = .ok (.iconst 4, 1) := by decide +kernel
theorem dX12_holdsBy_242 : decode cX12_holdsBy 242 = .ok (.iload 4, 2) := by decide +kernel
theorem dX12_holdsBy_244 : decode cX12_holdsBy 244 = .ok (.imul, 1) := by decide +kernel
theorem dX12_holdsBy_245 : decode cX12_holdsBy 245 = .ok (.iload_n 2, 1) := by decide +kernel
theorem dX12_holdsBy_246 : decode cX12_holdsBy 246 = .ok (.iadd, 1) := by decide +kernel
theorem dX12_holdsBy_247 : decode cX12_holdsBy 247 = .ok (.iaload, 1) := by decide +kernel
theorem dX12_holdsBy_248 : decode cX12_holdsBy 248 = .ok (.aload_n 0, 1) := by decide +kernel
theorem dX12_holdsBy_249 : decode cX12_holdsBy 249 = .ok (.getfield 50, 3) := by decide +kernel
theorem dX12_holdsBy_252 : decode cX12_holdsBy 252 = .ok (.iconst 4, 1) := by decide +kernel
theorem dX12_holdsBy_253 : decode cX12_holdsBy 253 = .ok (.iload 5, 2) := by decide +kernel
theorem dX12_holdsBy_255 : decode cX12_holdsBy 255 = .ok (.imul, 1) := by decide +kernel
theorem dX12_holdsBy_256 : decode cX12_holdsBy 256 = .ok (.iload_n 2, 1) := by decide +kernel
theorem dX12_holdsBy_257 : decode cX12_holdsBy 257 = .ok (.iadd, 1) := by decide +kernel
theorem dX12_holdsBy_258 : decode cX12_holdsBy 258 = .ok (.iaload, 1) := by decide +kernel
theorem dX12_holdsBy_259 : decode cX12_holdsBy 259 = .ok (.ior, 1) := by decide +kernel
theorem dX12_holdsBy_260 : decode cX12_holdsBy 260 = .ok (.iload_n 3, 1) := by decide +kernel
theorem dX12_holdsBy_261 : decode cX12_holdsBy 261 = .ok (.invokestatic 64, 3) := by decide +kernel
theorem dX12_holdsBy_264 : decode cX12_holdsBy 264 = .ok (.ireturn, 1) := by decide +kernel
theorem dX12_layHeld_0 : decode cX12_layHeld 0 = .ok (.aload_n 0, 1) := by decide +kernel
theorem dX12_layHeld_1 : decode cX12_layHeld 1 = .ok (.iload_n 2, 1) := by decide +kernel
theorem dX12_layHeld_2 : decode cX12_layHeld 2 = .ok (.invokevirtual 374, 3) := by decide +kernel
theorem dX12_layHeld_5 : decode cX12_layHeld 5 = .ok (.ifCond .eq 11, 3) := by decide +kernel
theorem dX12_layHeld_8 : decode cX12_layHeld 8 = .ok (.aload_n 0, 1) := by decide +kernel
theorem dX12_layHeld_9 : decode cX12_layHeld 9 = .ok (.iload_n 1, 1) := by decide +kernel
theorem dX12_layHeld_10 : decode cX12_layHeld 10 = .ok (.invokevirtual 313, 3) := by decide +kernel
theorem dX12_layHeld_13 : decode cX12_layHeld 13 = .ok (.ifCond .ne 5, 3) := by decide +kernel
theorem dX12_layHeld_16 : decode cX12_layHeld 16 = .ok (.iconst 0, 1) := by decide +kernel
theorem dX12_layHeld_17 : decode cX12_layHeld 17 = .ok (.ireturn, 1) := by decide +kernel
theorem dX12_layHeld_18 : decode cX12_layHeld 18 = .ok (.iconst 0, 1) := by decide +kernel
theorem dX12_layHeld_19 : decode cX12_layHeld 19 = .ok (.istore_n 3, 1) := by decide +kernel
theorem dX12_layHeld_20 : decode cX12_layHeld 20 = .ok (.iload_n 3, 1) := by decide +kernel
theorem dX12_layHeld_21 : decode cX12_layHeld 21 = .ok (.aload_n 0, 1) := by decide +kernel
theorem dX12_layHeld_22 : decode cX12_layHeld 22 = .ok (.invokevirtual 377, 3) := by decide +kernel
theorem dX12_layHeld_25 : decode cX12_layHeld 25 = .ok (.if_icmp .ge 99, 3) := by decide +kernel
theorem dX12_layHeld_28 : decode cX12_layHeld 28 = .ok (.iconst 0, 1) := by decide +kernel
theorem dX12_layHeld_29 : decode cX12_layHeld 29 = .ok (.istore 4, 2) := by decide +kernel
theorem dX12_layHeld_31 : decode cX12_layHeld 31 = .ok (.iload 4, 2) := by decide +kernel
theorem dX12_layHeld_33 : decode cX12_layHeld 33 = .ok (.iconst 4, 1) := by decide +kernel
theorem dX12_layHeld_34 : decode cX12_layHeld 34 = .ok (.if_icmp .ge 84, 3) := by decide +kernel
theorem dX12_layHeld_37 : decode cX12_layHeld 37 = .ok (.aload_n 0, 1) := by decide +kernel
theorem dX12_layHeld_38 : decode cX12_layHeld 38 = .ok (.getfield 50, 3) := by decide +kernel
theorem dX12_layHeld_41 : decode cX12_layHeld 41 = .ok (.iconst 4, 1) := by decide +kernel
theorem dX12_layHeld_42 : decode cX12_layHeld 42 = .ok (.iload_n 3, 1) := by decide +kernel
theorem dX12_layHeld_43 : decode cX12_layHeld 43 = .ok (.imul, 1) := by decide +kernel
theorem dX12_layHeld_44 : decode cX12_layHeld 44 = .ok (.iload 4, 2) := by decide +kernel
theorem dX12_layHeld_46 : decode cX12_layHeld 46 = .ok (.iadd, 1) := by decide +kernel
theorem dX12_layHeld_47 : decode cX12_layHeld 47 = .ok (.iconst 0, 1) := by decide +kernel
theorem dX12_layHeld_48 : decode cX12_layHeld 48 = .ok (.iastore, 1) := by decide +kernel
theorem dX12_layHeld_49 : decode cX12_layHeld 49 = .ok (.iconst 0, 1) := by decide +kernel
theorem dX12_layHeld_50 : decode cX12_layHeld 50 = .ok (.istore 5, 2) := by decide +kernel
theorem dX12_layHeld_52 : decode cX12_layHeld 52 = .ok (.aload_n 0, 1) := by decide +kernel
theorem dX12_layHeld_53 : decode cX12_layHeld 53 = .ok (.iload 4, 2) := by decide +kernel
theorem dX12_layHeld_55 : decode cX12_layHeld 55 = .ok (.invokevirtual 256, 3) := by decide +kernel
theorem dX12_layHeld_58 : decode cX12_layHeld 58 = .ok (.ifCond .eq 54, 3) := by decide +kernel
theorem dX12_layHeld_61 : decode cX12_layHeld 61 = .ok (.iload 5, 2) := by decide +kernel
theorem dX12_layHeld_63 : decode cX12_layHeld 63 = .ok (.aload_n 0, 1) := by decide +kernel
theorem dX12_layHeld_64 : decode cX12_layHeld 64 = .ok (.iload 4, 2) := by decide +kernel
theorem dX12_layHeld_66 : decode cX12_layHeld 66 = .ok (.invokevirtual 259, 3) := by decide +kernel
theorem dX12_layHeld_69 : decode cX12_layHeld 69 = .ok (.if_icmp .ge 43, 3) := by decide +kernel
theorem dX12_layHeld_72 : decode cX12_layHeld 72 = .ok (.aload_n 0, 1) := by decide +kernel
theorem dX12_layHeld_73 : decode cX12_layHeld 73 = .ok (.getfield 50, 3) := by decide +kernel
theorem dX12_layHeld_76 : decode cX12_layHeld 76 = .ok (.iconst 4, 1) := by decide +kernel
theorem dX12_layHeld_77 : decode cX12_layHeld 77 = .ok (.iload_n 3, 1) := by decide +kernel
theorem dX12_layHeld_78 : decode cX12_layHeld 78 = .ok (.imul, 1) := by decide +kernel
theorem dX12_layHeld_79 : decode cX12_layHeld 79 = .ok (.iload 4, 2) := by decide +kernel
theorem dX12_layHeld_81 : decode cX12_layHeld 81 = .ok (.iadd, 1) := by decide +kernel
theorem dX12_layHeld_82 : decode cX12_layHeld 82 = .ok (.dup2, 1) := by decide +kernel
theorem dX12_layHeld_83 : decode cX12_layHeld 83 = .ok (.iaload, 1) := by decide +kernel
theorem dX12_layHeld_84 : decode cX12_layHeld 84 = .ok (.aload_n 0, 1) := by decide +kernel
theorem dX12_layHeld_85 : decode cX12_layHeld 85 = .ok (.iload_n 3, 1) := by decide +kernel
theorem dX12_layHeld_86 : decode cX12_layHeld 86 = .ok (.iload 4, 2) := by decide +kernel
theorem dX12_layHeld_88 : decode cX12_layHeld 88 = .ok (.iload 5, 2) := by decide +kernel
theorem dX12_layHeld_90 : decode cX12_layHeld 90 = .ok (.invokevirtual 392, 3) := by decide +kernel
theorem dX12_layHeld_93 : decode cX12_layHeld 93 = .ok (.ifCond .eq 10, 3) := by decide +kernel
theorem dX12_layHeld_96 : decode cX12_layHeld 96 = .ok (.iconst 1, 1) := by decide +kernel
theorem dX12_layHeld_97 : decode cX12_layHeld 97 = .ok (.iload 5, 2) := by decide +kernel
theorem dX12_layHeld_99 : decode cX12_layHeld 99 = .ok (.ishl, 1) := by decide +kernel
theorem dX12_layHeld_100 : decode cX12_layHeld 100 = .ok (.goto 4, 3) := by decide +kernel
theorem dX12_layHeld_103 : decode cX12_layHeld 103 = .ok (.iconst 0, 1) := by decide +kernel
theorem dX12_layHeld_104 : decode cX12_layHeld 104 = .ok (.ior, 1) := by decide +kernel
theorem dX12_layHeld_105 : decode cX12_layHeld 105 = .ok (.iastore, 1) := by decide +kernel
theorem dX12_layHeld_106 : decode cX12_layHeld 106 = .ok (.iinc 5 1, 3) := by decide +kernel
theorem dX12_layHeld_109 : decode cX12_layHeld 109 = .ok (.goto (-57), 3) := by decide +kernel
theorem dX12_layHeld_112 : decode cX12_layHeld 112 = .ok (.iinc 4 1, 3) := by decide +kernel
theorem dX12_layHeld_115 : decode cX12_layHeld 115 = .ok (.goto (-84), 3) := by decide +kernel
theorem dX12_layHeld_118 : decode cX12_layHeld 118 = .ok (.iinc 3 1, 3) := by decide +kernel
theorem dX12_layHeld_121 : decode cX12_layHeld 121 = .ok (.goto (-101), 3) := by decide +kernel
theorem dX12_layHeld_124 : decode cX12_layHeld 124 = .ok (.iconst 1, 1) := by decide +kernel
theorem dX12_layHeld_125 : decode cX12_layHeld 125 = .ok (.ireturn, 1) := by decide +kernel
theorem dX12_isAsking_0 : decode cX12_isAsking 0 = .ok (.iload_n 1, 1) := by decide +kernel
theorem dX12_isAsking_1 : decode cX12_isAsking 1 = .ok (.iconst 0, 1) := by decide +kernel
theorem dX12_isAsking_2 : decode cX12_isAsking 2 = .ok (.aload_n 0, 1) := by decide +kernel
theorem dX12_isAsking_3 : decode cX12_isAsking 3 = .ok (.invokevirtual 377, 3) := by decide +kernel
theorem dX12_isAsking_6 : decode cX12_isAsking 6 = .ok (.iconst 1, 1) := by decide +kernel
theorem dX12_isAsking_7 : decode cX12_isAsking 7 = .ok (.isub, 1) := by decide +kernel
theorem dX12_isAsking_8 : decode cX12_isAsking 8 = .ok (.invokestatic 72, 3) := by decide +kernel
theorem dX12_isAsking_11 : decode cX12_isAsking 11 = .ok (.ireturn, 1) := by decide +kernel
theorem dX12_holds_0 : decode cX12_holds 0 = .ok (.aload_n 0, 1) := by decide +kernel
theorem dX12_holds_1 : decode cX12_holds 1 = .ok (.iconst 0, 1) := by decide +kernel
theorem dX12_holds_2 : decode cX12_holds 2 = .ok (.putfield 60, 3) := by decide +kernel
theorem dX12_holds_5 : decode cX12_holds 5 = .ok (.aload_n 0, 1) := by decide +kernel
theorem dX12_holds_6 : decode cX12_holds 6 = .ok (.iload_n 1, 1) := by decide +kernel
theorem dX12_holds_7 : decode cX12_holds 7 = .ok (.iload_n 2, 1) := by decide +kernel
theorem dX12_holds_8 : decode cX12_holds 8 = .ok (.invokevirtual 395, 3) := by decide +kernel
theorem dX12_holds_11 : decode cX12_holds 11 = .ok (.ifCond .eq 22, 3) := by decide +kernel
theorem dX12_holds_14 : decode cX12_holds 14 = .ok (.aload_n 0, 1) := by decide +kernel
theorem dX12_holds_15 : decode cX12_holds 15 = .ok (.iload_n 3, 1) := by decide +kernel
theorem dX12_holds_16 : decode cX12_holds 16 = .ok (.invokevirtual 398, 3) := by decide +kernel
theorem dX12_holds_19 : decode cX12_holds 19 = .ok (.ifCond .eq 14, 3) := by decide +kernel
theorem dX12_holds_22 : decode cX12_holds 22 = .ok (.aload_n 0, 1) := by decide +kernel
theorem dX12_holds_23 : decode cX12_holds 23 = .ok (.iload 4, 2) := by decide +kernel
theorem dX12_holds_25 : decode cX12_holds 25 = .ok (.iload 5, 2) := by decide +kernel
theorem dX12_holds_27 : decode cX12_holds 27 = .ok (.invokevirtual 284, 3) := by decide +kernel
theorem dX12_holds_30 : decode cX12_holds 30 = .ok (.ifCond .ne 5, 3) := by decide +kernel
theorem dX12_holds_33 : decode cX12_holds 33 = .ok (.iconst (-1), 1) := by decide +kernel
theorem dX12_holds_34 : decode cX12_holds 34 = .ok (.ireturn, 1) := by decide +kernel
theorem dX12_holds_35 : decode cX12_holds 35 = .ok (.aload_n 0, 1) := by decide +kernel
theorem dX12_holds_36 : decode cX12_holds 36 = .ok (.getfield 50, 3) := by decide +kernel
theorem dX12_holds_39 : decode cX12_holds 39 = .ok (.iconst 4, 1) := by decide +kernel
theorem dX12_holds_40 : decode cX12_holds 40 = .ok (.iload_n 3, 1) := by decide +kernel
theorem dX12_holds_41 : decode cX12_holds 41 = .ok (.imul, 1) := by decide +kernel
theorem dX12_holds_42 : decode cX12_holds 42 = .ok (.iload 4, 2) := by decide +kernel
theorem dX12_holds_44 : decode cX12_holds 44 = .ok (.iadd, 1) := by decide +kernel
theorem dX12_holds_45 : decode cX12_holds 45 = .ok (.iaload, 1) := by decide +kernel
theorem dX12_holds_46 : decode cX12_holds 46 = .ok (.iload 5, 2) := by decide +kernel
theorem dX12_holds_48 : decode cX12_holds 48 = .ok (.invokestatic 64, 3) := by decide +kernel
theorem dX12_holds_51 : decode cX12_holds 51 = .ok (.ifCond .eq 7, 3) := by decide +kernel
theorem dX12_holds_54 : decode cX12_holds 54 = .ok (.iconst 1, 1) := by decide +kernel
theorem dX12_holds_55 : decode cX12_holds 55 = .ok (.goto 4, 3) := by decide +kernel
theorem dX12_holds_58 : decode cX12_holds 58 = .ok (.iconst 0, 1) := by decide +kernel
theorem dX12_holds_59 : decode cX12_holds 59 = .ok (.ireturn, 1) := by decide +kernel
theorem dX12_spans_0 : decode cX12_spans 0 = .ok (.aload_n 0, 1) := by decide +kernel
theorem dX12_spans_1 : decode cX12_spans 1 = .ok (.iconst 0, 1) := by decide +kernel
theorem dX12_spans_2 : decode cX12_spans 2 = .ok (.putfield 60, 3) := by decide +kernel
theorem dX12_spans_5 : decode cX12_spans 5 = .ok (.aload_n 0, 1) := by decide +kernel
theorem dX12_spans_6 : decode cX12_spans 6 = .ok (.iload_n 1, 1) := by decide +kernel
theorem dX12_spans_7 : decode cX12_spans 7 = .ok (.iload_n 2, 1) := by decide +kernel
theorem dX12_spans_8 : decode cX12_spans 8 = .ok (.invokevirtual 395, 3) := by decide +kernel
theorem dX12_spans_11 : decode cX12_spans 11 = .ok (.ifCond .eq 20, 3) := by decide +kernel
theorem dX12_spans_14 : decode cX12_spans 14 = .ok (.aload_n 0, 1) := by decide +kernel
theorem dX12_spans_15 : decode cX12_spans 15 = .ok (.iload_n 3, 1) := by decide +kernel
theorem dX12_spans_16 : decode cX12_spans 16 = .ok (.invokevirtual 398, 3) := by decide +kernel
theorem dX12_spans_19 : decode cX12_spans 19 = .ok (.ifCond .eq 12, 3) := by decide +kernel
theorem dX12_spans_22 : decode cX12_spans 22 = .ok (.aload_n 0, 1) := by decide +kernel
theorem dX12_spans_23 : decode cX12_spans 23 = .ok (.iload 4, 2) := by decide +kernel
theorem dX12_spans_25 : decode cX12_spans 25 = .ok (.invokevirtual 256, 3) := by decide +kernel
theorem dX12_spans_28 : decode cX12_spans 28 = .ok (.ifCond .ne 5, 3) := by decide +kernel
theorem dX12_spans_31 : decode cX12_spans 31 = .ok (.iconst (-1), 1) := by decide +kernel
theorem dX12_spans_32 : decode cX12_spans 32 = .ok (.ireturn, 1) := by decide +kernel
theorem dX12_spans_33 : decode cX12_spans 33 = .ok (.aload_n 0, 1) := by decide +kernel
theorem dX12_spans_34 : decode cX12_spans 34 = .ok (.getfield 50, 3) := by decide +kernel
theorem dX12_spans_37 : decode cX12_spans 37 = .ok (.iconst 4, 1) := by decide +kernel
theorem dX12_spans_38 : decode cX12_spans 38 = .ok (.iload_n 3, 1) := by decide +kernel
theorem dX12_spans_39 : decode cX12_spans 39 = .ok (.imul, 1) := by decide +kernel
theorem dX12_spans_40 : decode cX12_spans 40 = .ok (.iload 4, 2) := by decide +kernel
theorem dX12_spans_42 : decode cX12_spans 42 = .ok (.iadd, 1) := by decide +kernel
theorem dX12_spans_43 : decode cX12_spans 43 = .ok (.iaload, 1) := by decide +kernel
theorem dX12_spans_44 : decode cX12_spans 44 = .ok (.istore 7, 2) := by decide +kernel
theorem dX12_spans_46 : decode cX12_spans 46 = .ok (.iload 5, 2) := by decide +kernel
theorem dX12_spans_48 : decode cX12_spans 48 = .ok (.iconst (-1), 1) := by decide +kernel
theorem dX12_spans_49 : decode cX12_spans 49 = .ok (.if_icmp .ne 9, 3) := by decide +kernel
theorem dX12_spans_52 : decode cX12_spans 52 = .ok (.iload 7, 2) := by decide +kernel
theorem dX12_spans_54 : decode cX12_spans 54 = .ok (.invokestatic 281, 3) := by decide +kernel
theorem dX12_spans_57 : decode cX12_spans 57 = .ok (.ireturn, 1) := by decide +kernel
theorem dX12_spans_58 : decode cX12_spans 58 = .ok (.iconst (-1), 1) := by decide +kernel
theorem dX12_spans_59 : decode cX12_spans 59 = .ok (.istore 8, 2) := by decide +kernel
theorem dX12_spans_61 : decode cX12_spans 61 = .ok (.iconst 0, 1) := by decide +kernel
theorem dX12_spans_62 : decode cX12_spans 62 = .ok (.istore 9, 2) := by decide +kernel
theorem dX12_spans_64 : decode cX12_spans 64 = .ok (.iload 9, 2) := by decide +kernel
theorem dX12_spans_66 : decode cX12_spans 66 = .ok (.bipush 10, 2) := by decide +kernel
theorem dX12_spans_68 : decode cX12_spans 68 = .ok (.if_icmp .ge 120, 3) := by decide +kernel
theorem dX12_spans_71 : decode cX12_spans 71 = .ok (.iload 8, 2) := by decide +kernel
theorem dX12_spans_73 : decode cX12_spans 73 = .ok (.iload 7, 2) := by decide +kernel
theorem dX12_spans_75 : decode cX12_spans 75 = .ok (.iload 9, 2) := by decide +kernel
theorem dX12_spans_77 : decode cX12_spans 77 = .ok (.invokestatic 64, 3) := by decide +kernel
theorem dX12_spans_80 : decode cX12_spans 80 = .ok (.ifCond .eq 24, 3) := by decide +kernel
theorem dX12_spans_83 : decode cX12_spans 83 = .ok (.iload 9, 2) := by decide +kernel
theorem dX12_spans_85 : decode cX12_spans 85 = .ok (.ifCond .eq 15, 3) := by decide +kernel
theorem dX12_spans_88 : decode cX12_spans 88 = .ok (.iload 7, 2) := by decide +kernel
theorem dX12_spans_90 : decode cX12_spans 90 = .ok (.iload 9, 2) := by decide +kernel
theorem dX12_spans_92 : decode cX12_spans 92 = .ok (.iconst 1, 1) := by decide +kernel
theorem dX12_spans_93 : decode cX12_spans 93 = .ok (.isub, 1) := by decide +kernel
theorem dX12_spans_94 : decode cX12_spans 94 = .ok (.invokestatic 64, 3) := by decide +kernel
theorem dX12_spans_97 : decode cX12_spans 97 = .ok (.ifCond .ne 7, 3) := by decide +kernel
theorem dX12_spans_100 : decode cX12_spans 100 = .ok (.iconst 1, 1) := by decide +kernel
theorem dX12_spans_101 : decode cX12_spans 101 = .ok (.goto 4, 3) := by decide +kernel
theorem dX12_spans_104 : decode cX12_spans 104 = .ok (.iconst 0, 1) := by decide +kernel
theorem dX12_spans_105 : decode cX12_spans 105 = .ok (.iadd, 1) := by decide +kernel
theorem dX12_spans_106 : decode cX12_spans 106 = .ok (.istore 8, 2) := by decide +kernel
theorem dX12_spans_108 : decode cX12_spans 108 = .ok (.iload 6, 2) := by decide +kernel
theorem dX12_spans_110 : decode cX12_spans 110 = .ok (.ifCond .eq 23, 3) := by decide +kernel
theorem dX12_spans_113 : decode cX12_spans 113 = .ok (.iload 7, 2) := by decide +kernel
theorem dX12_spans_115 : decode cX12_spans 115 = .ok (.iload 9, 2) := by decide +kernel
theorem dX12_spans_117 : decode cX12_spans 117 = .ok (.iconst 1, 1) := by decide +kernel
theorem dX12_spans_118 : decode cX12_spans 118 = .ok (.iadd, 1) := by decide +kernel
theorem dX12_spans_119 : decode cX12_spans 119 = .ok (.invokestatic 64, 3) := by decide +kernel
theorem dX12_spans_122 : decode cX12_spans 122 = .ok (.ifCond .ne 7, 3) := by decide +kernel
theorem dX12_spans_125 : decode cX12_spans 125 = .ok (.iconst 1, 1) := by decide +kernel
theorem dX12_spans_126 : decode cX12_spans 126 = .ok (.goto 29, 3) := by decide +kernel
theorem dX12_spans_129 : decode cX12_spans 129 = .ok (.iconst 0, 1) := by decide +kernel
theorem dX12_spans_130 : decode cX12_spans 130 = .ok (.goto 25, 3) := by decide +kernel
theorem dX12_spans_133 : decode cX12_spans 133 = .ok (.iload 9, 2) := by decide +kernel
theorem dX12_spans_135 : decode cX12_spans 135 = .ok (.ifCond .eq 15, 3) := by decide +kernel
theorem dX12_spans_138 : decode cX12_spans 138 = .ok (.iload 7, 2) := by decide +kernel
theorem dX12_spans_140 : decode cX12_spans 140 = .ok (.iload 9, 2) := by decide +kernel
theorem dX12_spans_142 : decode cX12_spans 142 = .ok (.iconst 1, 1) := by decide +kernel
theorem dX12_spans_143 : decode cX12_spans 143 = .ok (.isub, 1) := by decide +kernel
theorem dX12_spans_144 : decode cX12_spans 144 = .ok (.invokestatic 64, 3) := by decide +kernel
theorem dX12_spans_147 : decode cX12_spans 147 = .ok (.ifCond .ne 7, 3) := by decide +kernel
theorem dX12_spans_150 : decode cX12_spans 150 = .ok (.iconst 1, 1) := by decide +kernel
theorem dX12_spans_151 : decode cX12_spans 151 = .ok (.goto 4, 3) := by decide +kernel
theorem dX12_spans_154 : decode cX12_spans 154 = .ok (.iconst 0, 1) := by decide +kernel
theorem dX12_spans_155 : decode cX12_spans 155 = .ok (.istore 10, 2) := by decide +kernel
theorem dX12_spans_157 : decode cX12_spans 157 = .ok (.iload 7, 2) := by decide +kernel
theorem dX12_spans_159 : decode cX12_spans 159 = .ok (.iload 9, 2) := by decide +kernel
theorem dX12_spans_161 : decode cX12_spans 161 = .ok (.invokestatic 64, 3) := by decide +kernel
theorem dX12_spans_164 : decode cX12_spans 164 = .ok (.ifCond .eq 18, 3) := by decide +kernel
theorem dX12_spans_167 : decode cX12_spans 167 = .ok (.iload 8, 2) := by decide +kernel
theorem dX12_spans_169 : decode cX12_spans 169 = .ok (.iload 5, 2) := by decide +kernel
theorem dX12_spans_171 : decode cX12_spans 171 = .ok (.if_icmp .ne 11, 3) := by decide +kernel
theorem dX12_spans_174 : decode cX12_spans 174 = .ok (.iload 10, 2) := by decide +kernel
theorem dX12_spans_176 : decode cX12_spans 176 = .ok (.ifCond .eq 6, 3) := by decide +kernel
theorem dX12_spans_179 : decode cX12_spans 179 = .ok (.iload 9, 2) := by decide +kernel
theorem dX12_spans_181 : decode cX12_spans 181 = .ok (.ireturn, 1) := by decide +kernel
theorem dX12_spans_182 : decode cX12_spans 182 = .ok (.iinc 9 1, 3) := by decide +kernel
theorem dX12_spans_185 : decode cX12_spans 185 = .ok (.goto (-121), 3) := by decide +kernel
theorem dX12_spans_188 : decode cX12_spans 188 = .ok (.iconst (-1), 1) := by decide +kernel
theorem dX12_spans_189 : decode cX12_spans 189 = .ok (.ireturn, 1) := by decide +kernel
theorem dX12_times_0 : decode cX12_times 0 = .ok (.aload_n 0, 1) := by decide +kernel
theorem dX12_times_1 : decode cX12_times 1 = .ok (.iconst 0, 1) := by decide +kernel
theorem dX12_times_2 : decode cX12_times 2 = .ok (.putfield 60, 3) := by decide +kernel
theorem dX12_times_5 : decode cX12_times 5 = .ok (.aload_n 0, 1) := by decide +kernel
theorem dX12_times_6 : decode cX12_times 6 = .ok (.iload_n 2, 1) := by decide +kernel
theorem dX12_times_7 : decode cX12_times 7 = .ok (.invokevirtual 374, 3) := by decide +kernel
theorem dX12_times_10 : decode cX12_times 10 = .ok (.ifCond .eq 30, 3) := by decide +kernel
theorem dX12_times_13 : decode cX12_times 13 = .ok (.aload_n 0, 1) := by decide +kernel
theorem dX12_times_14 : decode cX12_times 14 = .ok (.iload_n 1, 1) := by decide +kernel
theorem dX12_times_15 : decode cX12_times 15 = .ok (.invokevirtual 313, 3) := by decide +kernel
theorem dX12_times_18 : decode cX12_times 18 = .ok (.ifCond .eq 22, 3) := by decide +kernel
theorem dX12_times_21 : decode cX12_times 21 = .ok (.aload_n 0, 1) := by decide +kernel
theorem dX12_times_22 : decode cX12_times 22 = .ok (.iload_n 3, 1) := by decide +kernel
theorem dX12_times_23 : decode cX12_times 23 = .ok (.invokevirtual 398, 3) := by decide +kernel
theorem dX12_times_26 : decode cX12_times 26 = .ok (.ifCond .eq 14, 3) := by decide +kernel
theorem dX12_times_29 : decode cX12_times 29 = .ok (.aload_n 0, 1) := by decide +kernel
theorem dX12_times_30 : decode cX12_times 30 = .ok (.iload 4, 2) := by decide +kernel
theorem dX12_times_32 : decode cX12_times 32 = .ok (.iload 5, 2) := by decide +kernel
theorem dX12_times_34 : decode cX12_times 34 = .ok (.invokevirtual 284, 3) := by decide +kernel
theorem dX12_times_37 : decode cX12_times 37 = .ok (.ifCond .ne 5, 3) := by decide +kernel
theorem dX12_times_40 : decode cX12_times 40 = .ok (.iconst (-1), 1) := by decide +kernel
theorem dX12_times_41 : decode cX12_times 41 = .ok (.ireturn, 1) := by decide +kernel
theorem dX12_times_42 : decode cX12_times 42 = .ok (.aload_n 0, 1) := by decide +kernel
theorem dX12_times_43 : decode cX12_times 43 = .ok (.iload_n 3, 1) := by decide +kernel
theorem dX12_times_44 : decode cX12_times 44 = .ok (.iconst 0, 1) := by decide +kernel
theorem dX12_times_45 : decode cX12_times 45 = .ok (.invokevirtual 371, 3) := by decide +kernel
theorem dX12_times_48 : decode cX12_times 48 = .ok (.ifCond .ne 15, 3) := by decide +kernel
theorem dX12_times_51 : decode cX12_times 51 = .ok (.aload_n 0, 1) := by decide +kernel
theorem dX12_times_52 : decode cX12_times 52 = .ok (.iload_n 3, 1) := by decide +kernel
theorem dX12_times_53 : decode cX12_times 53 = .ok (.iload 4, 2) := by decide +kernel
theorem dX12_times_55 : decode cX12_times 55 = .ok (.iload 5, 2) := by decide +kernel
theorem dX12_times_57 : decode cX12_times 57 = .ok (.invokevirtual 386, 3) := by decide +kernel
theorem dX12_times_60 : decode cX12_times 60 = .ok (.goto 4, 3) := by decide +kernel
theorem dX12_times_63 : decode cX12_times 63 = .ok (.iconst (-1), 1) := by decide +kernel
theorem dX12_times_64 : decode cX12_times 64 = .ok (.ireturn, 1) := by decide +kernel
theorem dX12_docsBy_0 : decode cX12_docsBy 0 = .ok (.iconst 0, 1) := by decide +kernel
theorem dX12_docsBy_1 : decode cX12_docsBy 1 = .ok (.istore_n 3, 1) := by decide +kernel
theorem dX12_docsBy_2 : decode cX12_docsBy 2 = .ok (.iconst 0, 1) := by decide +kernel
theorem dX12_docsBy_3 : decode cX12_docsBy 3 = .ok (.istore 4, 2) := by decide +kernel
theorem dX12_docsBy_5 : decode cX12_docsBy 5 = .ok (.iload 4, 2) := by decide +kernel
theorem dX12_docsBy_7 : decode cX12_docsBy 7 = .ok (.aload_n 0, 1) := by decide +kernel
theorem dX12_docsBy_8 : decode cX12_docsBy 8 = .ok (.getfield 35, 3) := by decide +kernel
theorem dX12_docsBy_11 : decode cX12_docsBy 11 = .ok (.iconst 0, 1) := by decide +kernel
theorem dX12_docsBy_12 : decode cX12_docsBy 12 = .ok (.iaload, 1) := by decide +kernel
theorem dX12_docsBy_13 : decode cX12_docsBy 13 = .ok (.if_icmp .ge 59, 3) := by decide +kernel
theorem dX12_docsBy_16 : decode cX12_docsBy 16 = .ok (.aload_n 0, 1) := by decide +kernel
theorem dX12_docsBy_17 : decode cX12_docsBy 17 = .ok (.getfield 50, 3) := by decide +kernel
theorem dX12_docsBy_20 : decode cX12_docsBy 20 = .ok (.iconst 4, 1) := by decide +kernel
theorem dX12_docsBy_21 : decode cX12_docsBy 21 = .ok (.iload_n 1, 1) := by decide +kernel
theorem dX12_docsBy_22 : decode cX12_docsBy 22 = .ok (.imul, 1) := by decide +kernel
theorem dX12_docsBy_23 : decode cX12_docsBy 23 = .ok (.iload 4, 2) := by decide +kernel
theorem dX12_docsBy_25 : decode cX12_docsBy 25 = .ok (.iadd, 1) := by decide +kernel
theorem dX12_docsBy_26 : decode cX12_docsBy 26 = .ok (.iaload, 1) := by decide +kernel
theorem dX12_docsBy_27 : decode cX12_docsBy 27 = .ok (.istore 5, 2) := by decide +kernel
theorem dX12_docsBy_29 : decode cX12_docsBy 29 = .ok (.iload_n 3, 1) := by decide +kernel
theorem dX12_docsBy_30 : decode cX12_docsBy 30 = .ok (.iload_n 2, 1) := by decide +kernel
theorem dX12_docsBy_31 : decode cX12_docsBy 31 = .ok (.ifCond .eq 20, 3) := by decide +kernel
theorem dX12_docsBy_34 : decode cX12_docsBy 34 = .ok (.iload 5, 2) := by decide +kernel
theorem dX12_docsBy_36 : decode cX12_docsBy 36 = .ok (.invokestatic 300, 3) := by decide +kernel
theorem dX12_docsBy_39 : decode cX12_docsBy 39 = .ok (.aload_n 0, 1) := by decide +kernel
theorem dX12_docsBy_40 : decode cX12_docsBy 40 = .ok (.iload 4, 2) := by decide +kernel
theorem dX12_docsBy_42 : decode cX12_docsBy 42 = .ok (.invokevirtual 259, 3) := by decide +kernel
theorem dX12_docsBy_45 : decode cX12_docsBy 45 = .ok (.if_icmp .ne 18, 3) := by decide +kernel
theorem dX12_docsBy_48 : decode cX12_docsBy 48 = .ok (.goto 8, 3) := by decide +kernel
theorem dX12_docsBy_51 : decode cX12_docsBy 51 = .ok (.iload 5, 2) := by decide +kernel
theorem dX12_docsBy_53 : decode cX12_docsBy 53 = .ok (.ifCond .eq 10, 3) := by decide +kernel
theorem dX12_docsBy_56 : decode cX12_docsBy 56 = .ok (.iconst 1, 1) := by decide +kernel
theorem dX12_docsBy_57 : decode cX12_docsBy 57 = .ok (.iload 4, 2) := by decide +kernel
theorem dX12_docsBy_59 : decode cX12_docsBy 59 = .ok (.ishl, 1) := by decide +kernel
theorem dX12_docsBy_60 : decode cX12_docsBy 60 = .ok (.goto 4, 3) := by decide +kernel
theorem dX12_docsBy_63 : decode cX12_docsBy 63 = .ok (.iconst 0, 1) := by decide +kernel
theorem dX12_docsBy_64 : decode cX12_docsBy 64 = .ok (.ior, 1) := by decide +kernel
theorem dX12_docsBy_65 : decode cX12_docsBy 65 = .ok (.istore_n 3, 1) := by decide +kernel
theorem dX12_docsBy_66 : decode cX12_docsBy 66 = .ok (.iinc 4 1, 3) := by decide +kernel
theorem dX12_docsBy_69 : decode cX12_docsBy 69 = .ok (.goto (-64), 3) := by decide +kernel
theorem dX12_docsBy_72 : decode cX12_docsBy 72 = .ok (.iload_n 3, 1) := by decide +kernel
theorem dX12_docsBy_73 : decode cX12_docsBy 73 = .ok (.ireturn, 1) := by decide +kernel
theorem dX12_asOf_0 : decode cX12_asOf 0 = .ok (.iconst 0, 1) := by decide +kernel
theorem dX12_asOf_1 : decode cX12_asOf 1 = .ok (.istore_n 3, 1) := by decide +kernel
theorem dX12_asOf_2 : decode cX12_asOf 2 = .ok (.iconst 0, 1) := by decide +kernel
theorem dX12_asOf_3 : decode cX12_asOf 3 = .ok (.istore 4, 2) := by decide +kernel
theorem dX12_asOf_5 : decode cX12_asOf 5 = .ok (.iload 4, 2) := by decide +kernel
theorem dX12_asOf_7 : decode cX12_asOf 7 = .ok (.aload_n 0, 1) := by decide +kernel
theorem dX12_asOf_8 : decode cX12_asOf 8 = .ok (.getfield 35, 3) := by decide +kernel
theorem dX12_asOf_11 : decode cX12_asOf 11 = .ok (.iconst 0, 1) := by decide +kernel
theorem dX12_asOf_12 : decode cX12_asOf 12 = .ok (.iaload, 1) := by decide +kernel
theorem dX12_asOf_13 : decode cX12_asOf 13 = .ok (.if_icmp .ge 96, 3) := by decide +kernel
theorem dX12_asOf_16 : decode cX12_asOf 16 = .ok (.iconst (-1), 1) := by decide +kernel
theorem dX12_asOf_17 : decode cX12_asOf 17 = .ok (.istore 5, 2) := by decide +kernel
theorem dX12_asOf_19 : decode cX12_asOf 19 = .ok (.iconst 0, 1) := by decide +kernel
theorem dX12_asOf_20 : decode cX12_asOf 20 = .ok (.istore 6, 2) := by decide +kernel
theorem dX12_asOf_22 : decode cX12_asOf 22 = .ok (.iload 6, 2) := by decide +kernel
theorem dX12_asOf_24 : decode cX12_asOf 24 = .ok (.aload_n 0, 1) := by decide +kernel
theorem dX12_asOf_25 : decode cX12_asOf 25 = .ok (.iload 4, 2) := by decide +kernel
theorem dX12_asOf_27 : decode cX12_asOf 27 = .ok (.invokevirtual 259, 3) := by decide +kernel
theorem dX12_asOf_30 : decode cX12_asOf 30 = .ok (.if_icmp .ge 37, 3) := by decide +kernel
theorem dX12_asOf_33 : decode cX12_asOf 33 = .ok (.aload_n 0, 1) := by decide +kernel
theorem dX12_asOf_34 : decode cX12_asOf 34 = .ok (.getfield 35, 3) := by decide +kernel
theorem dX12_asOf_37 : decode cX12_asOf 37 = .ok (.bipush 6, 2) := by decide +kernel
theorem dX12_asOf_39 : decode cX12_asOf 39 = .ok (.iload 4, 2) := by decide +kernel
theorem dX12_asOf_41 : decode cX12_asOf 41 = .ok (.iload 6, 2) := by decide +kernel
theorem dX12_asOf_43 : decode cX12_asOf 43 = .ok (.invokestatic 146, 3) := by decide +kernel
theorem dX12_asOf_46 : decode cX12_asOf 46 = .ok (.iadd, 1) := by decide +kernel
theorem dX12_asOf_47 : decode cX12_asOf 47 = .ok (.iaload, 1) := by decide +kernel
theorem dX12_asOf_48 : decode cX12_asOf 48 = .ok (.iload_n 2, 1) := by decide +kernel
theorem dX12_asOf_49 : decode cX12_asOf 49 = .ok (.if_icmp .gt 8, 3) := by decide +kernel
theorem dX12_asOf_52 : decode cX12_asOf 52 = .ok (.iload 6, 2) := by decide +kernel
theorem dX12_asOf_54 : decode cX12_asOf 54 = .ok (.goto 5, 3) := by decide +kernel
theorem dX12_asOf_57 : decode cX12_asOf 57 = .ok (.iload 5, 2) := by decide +kernel
theorem dX12_asOf_59 : decode cX12_asOf 59 = .ok (.istore 5, 2) := by decide +kernel
theorem dX12_asOf_61 : decode cX12_asOf 61 = .ok (.iinc 6 1, 3) := by decide +kernel
theorem dX12_asOf_64 : decode cX12_asOf 64 = .ok (.goto (-42), 3) := by decide +kernel
theorem dX12_asOf_67 : decode cX12_asOf 67 = .ok (.iload_n 3, 1) := by decide +kernel
theorem dX12_asOf_68 : decode cX12_asOf 68 = .ok (.iload 5, 2) := by decide +kernel
theorem dX12_asOf_70 : decode cX12_asOf 70 = .ok (.iconst (-1), 1) := by decide +kernel
theorem dX12_asOf_71 : decode cX12_asOf 71 = .ok (.if_icmp .eq 29, 3) := by decide +kernel
theorem dX12_asOf_74 : decode cX12_asOf 74 = .ok (.aload_n 0, 1) := by decide +kernel
theorem dX12_asOf_75 : decode cX12_asOf 75 = .ok (.getfield 50, 3) := by decide +kernel
theorem dX12_asOf_78 : decode cX12_asOf 78 = .ok (.iconst 4, 1) := by decide +kernel
theorem dX12_asOf_79 : decode cX12_asOf 79 = .ok (.iload_n 1, 1) := by decide +kernel
theorem dX12_asOf_80 : decode cX12_asOf 80 = .ok (.imul, 1) := by decide +kernel
theorem dX12_asOf_81 : decode cX12_asOf 81 = .ok (.iload 4, 2) := by decide +kernel
theorem dX12_asOf_83 : decode cX12_asOf 83 = .ok (.iadd, 1) := by decide +kernel
theorem dX12_asOf_84 : decode cX12_asOf 84 = .ok (.iaload, 1) := by decide +kernel
theorem dX12_asOf_85 : decode cX12_asOf 85 = .ok (.iload 5, 2) := by decide +kernel
theorem dX12_asOf_87 : decode cX12_asOf 87 = .ok (.invokestatic 64, 3) := by decide +kernel
theorem dX12_asOf_90 : decode cX12_asOf 90 = .ok (.ifCond .eq 10, 3) := by decide +kernel
theorem dX12_asOf_93 : decode cX12_asOf 93 = .ok (.iconst 1, 1) := by decide +kernel
theorem dX12_asOf_94 : decode cX12_asOf 94 = .ok (.iload 4, 2) := by decide +kernel
theorem dX12_asOf_96 : decode cX12_asOf 96 = .ok (.ishl, 1) := by decide +kernel
theorem dX12_asOf_97 : decode cX12_asOf 97 = .ok (.goto 4, 3) := by decide +kernel
theorem dX12_asOf_100 : decode cX12_asOf 100 = .ok (.iconst 0, 1) := by decide +kernel
theorem dX12_asOf_101 : decode cX12_asOf 101 = .ok (.ior, 1) := by decide +kernel
theorem dX12_asOf_102 : decode cX12_asOf 102 = .ok (.istore_n 3, 1) := by decide +kernel
theorem dX12_asOf_103 : decode cX12_asOf 103 = .ok (.iinc 4 1, 3) := by decide +kernel
theorem dX12_asOf_106 : decode cX12_asOf 106 = .ok (.goto (-101), 3) := by decide +kernel
theorem dX12_asOf_109 : decode cX12_asOf 109 = .ok (.iload_n 3, 1) := by decide +kernel
theorem dX12_asOf_110 : decode cX12_asOf 110 = .ok (.ireturn, 1) := by decide +kernel
theorem dX12_changes_0 : decode cX12_changes 0 = .ok (.iconst 0, 1) := by decide +kernel
theorem dX12_changes_1 : decode cX12_changes 1 = .ok (.istore_n 3, 1) := by decide +kernel
theorem dX12_changes_2 : decode cX12_changes 2 = .ok (.iconst 0, 1) := by decide +kernel
theorem dX12_changes_3 : decode cX12_changes 3 = .ok (.istore 4, 2) := by decide +kernel
theorem dX12_changes_5 : decode cX12_changes 5 = .ok (.iconst 0, 1) := by decide +kernel
theorem dX12_changes_6 : decode cX12_changes 6 = .ok (.istore 5, 2) := by decide +kernel
theorem dX12_changes_8 : decode cX12_changes 8 = .ok (.iload 5, 2) := by decide +kernel
theorem dX12_changes_10 : decode cX12_changes 10 = .ok (.bipush 100, 2) := by decide +kernel
theorem dX12_changes_12 : decode cX12_changes 12 = .ok (.if_icmp .ge 40, 3) := by decide +kernel
theorem dX12_changes_15 : decode cX12_changes 15 = .ok (.aload_n 0, 1) := by decide +kernel
theorem dX12_changes_16 : decode cX12_changes 16 = .ok (.iload_n 1, 1) := by decide +kernel
theorem dX12_changes_17 : decode cX12_changes 17 = .ok (.iload 5, 2) := by decide +kernel
theorem dX12_changes_19 : decode cX12_changes 19 = .ok (.invokevirtual 401, 3) := by decide +kernel
theorem dX12_changes_22 : decode cX12_changes 22 = .ok (.istore 6, 2) := by decide +kernel
theorem dX12_changes_24 : decode cX12_changes 24 = .ok (.iload 6, 2) := by decide +kernel
theorem dX12_changes_26 : decode cX12_changes 26 = .ok (.iload 4, 2) := by decide +kernel
theorem dX12_changes_28 : decode cX12_changes 28 = .ok (.if_icmp .eq 14, 3) := by decide +kernel
theorem dX12_changes_31 : decode cX12_changes 31 = .ok (.iload_n 3, 1) := by decide +kernel
theorem dX12_changes_32 : decode cX12_changes 32 = .ok (.iload_n 2, 1) := by decide +kernel
theorem dX12_changes_33 : decode cX12_changes 33 = .ok (.if_icmp .ne 6, 3) := by decide +kernel
theorem dX12_changes_36 : decode cX12_changes 36 = .ok (.iload 5, 2) := by decide +kernel
theorem dX12_changes_38 : decode cX12_changes 38 = .ok (.ireturn, 1) := by decide +kernel
theorem dX12_changes_39 : decode cX12_changes 39 = .ok (.iinc 3 1, 3) := by decide +kernel
theorem dX12_changes_42 : decode cX12_changes 42 = .ok (.iload 6, 2) := by decide +kernel
theorem dX12_changes_44 : decode cX12_changes 44 = .ok (.istore 4, 2) := by decide +kernel
theorem dX12_changes_46 : decode cX12_changes 46 = .ok (.iinc 5 1, 3) := by decide +kernel
theorem dX12_changes_49 : decode cX12_changes 49 = .ok (.goto (-41), 3) := by decide +kernel
theorem dX12_changes_52 : decode cX12_changes 52 = .ok (.iload_n 2, 1) := by decide +kernel
theorem dX12_changes_53 : decode cX12_changes 53 = .ok (.iconst (-1), 1) := by decide +kernel
theorem dX12_changes_54 : decode cX12_changes 54 = .ok (.if_icmp .ne 7, 3) := by decide +kernel
theorem dX12_changes_57 : decode cX12_changes 57 = .ok (.iload_n 3, 1) := by decide +kernel
theorem dX12_changes_58 : decode cX12_changes 58 = .ok (.goto 4, 3) := by decide +kernel
theorem dX12_changes_61 : decode cX12_changes 61 = .ok (.iconst (-1), 1) := by decide +kernel
theorem dX12_changes_62 : decode cX12_changes 62 = .ok (.ireturn, 1) := by decide +kernel
theorem dX12_versionsBy_0 : decode cX12_versionsBy 0 = .ok (.iconst 0, 1) := by decide +kernel
theorem dX12_versionsBy_1 : decode cX12_versionsBy 1 = .ok (.istore_n 2, 1) := by decide +kernel
theorem dX12_versionsBy_2 : decode cX12_versionsBy 2 = .ok (.iconst 0, 1) := by decide +kernel
theorem dX12_versionsBy_3 : decode cX12_versionsBy 3 = .ok (.istore_n 3, 1) := by decide +kernel
theorem dX12_versionsBy_4 : decode cX12_versionsBy 4 = .ok (.iload_n 3, 1) := by decide +kernel
theorem dX12_versionsBy_5 : decode cX12_versionsBy 5 = .ok (.aload_n 0, 1) := by decide +kernel
theorem dX12_versionsBy_6 : decode cX12_versionsBy 6 = .ok (.getfield 35, 3) := by decide +kernel
theorem dX12_versionsBy_9 : decode cX12_versionsBy 9 = .ok (.iconst 0, 1) := by decide +kernel
theorem dX12_versionsBy_10 : decode cX12_versionsBy 10 = .ok (.iaload, 1) := by decide +kernel
theorem dX12_versionsBy_11 : decode cX12_versionsBy 11 = .ok (.if_icmp .ge 25, 3) := by decide +kernel
theorem dX12_versionsBy_14 : decode cX12_versionsBy 14 = .ok (.iload_n 2, 1) := by decide +kernel
theorem dX12_versionsBy_15 : decode cX12_versionsBy 15 = .ok (.aload_n 0, 1) := by decide +kernel
theorem dX12_versionsBy_16 : decode cX12_versionsBy 16 = .ok (.getfield 50, 3) := by decide +kernel
theorem dX12_versionsBy_19 : decode cX12_versionsBy 19 = .ok (.iconst 4, 1) := by decide +kernel
theorem dX12_versionsBy_20 : decode cX12_versionsBy 20 = .ok (.iload_n 1, 1) := by decide +kernel
theorem dX12_versionsBy_21 : decode cX12_versionsBy 21 = .ok (.imul, 1) := by decide +kernel
theorem dX12_versionsBy_22 : decode cX12_versionsBy 22 = .ok (.iload_n 3, 1) := by decide +kernel
theorem dX12_versionsBy_23 : decode cX12_versionsBy 23 = .ok (.iadd, 1) := by decide +kernel
theorem dX12_versionsBy_24 : decode cX12_versionsBy 24 = .ok (.iaload, 1) := by decide +kernel
theorem dX12_versionsBy_25 : decode cX12_versionsBy 25 = .ok (.invokestatic 300, 3) := by decide +kernel
theorem dX12_versionsBy_28 : decode cX12_versionsBy 28 = .ok (.iadd, 1) := by decide +kernel
theorem dX12_versionsBy_29 : decode cX12_versionsBy 29 = .ok (.istore_n 2, 1) := by decide +kernel
theorem dX12_versionsBy_30 : decode cX12_versionsBy 30 = .ok (.iinc 3 1, 3) := by decide +kernel
theorem dX12_versionsBy_33 : decode cX12_versionsBy 33 = .ok (.goto (-29), 3) := by decide +kernel
theorem dX12_versionsBy_36 : decode cX12_versionsBy 36 = .ok (.iload_n 2, 1) := by decide +kernel
theorem dX12_versionsBy_37 : decode cX12_versionsBy 37 = .ok (.ireturn, 1) := by decide +kernel
theorem dX12_rankOf_0 : decode cX12_rankOf 0 = .ok (.iconst 2, 1) := by decide +kernel
theorem dX12_rankOf_1 : decode cX12_rankOf 1 = .ok (.aload_n 0, 1) := by decide +kernel
theorem dX12_rankOf_2 : decode cX12_rankOf 2 = .ok (.getfield 50, 3) := by decide +kernel
theorem dX12_rankOf_5 : decode cX12_rankOf 5 = .ok (.iconst 4, 1) := by decide +kernel
theorem dX12_rankOf_6 : decode cX12_rankOf 6 = .ok (.iload_n 1, 1) := by decide +kernel
theorem dX12_rankOf_7 : decode cX12_rankOf 7 = .ok (.imul, 1) := by decide +kernel
theorem dX12_rankOf_8 : decode cX12_rankOf 8 = .ok (.iload_n 2, 1) := by decide +kernel
theorem dX12_rankOf_9 : decode cX12_rankOf 9 = .ok (.iadd, 1) := by decide +kernel
theorem dX12_rankOf_10 : decode cX12_rankOf 10 = .ok (.iaload, 1) := by decide +kernel
theorem dX12_rankOf_11 : decode cX12_rankOf 11 = .ok (.invokestatic 300, 3) := by decide +kernel
theorem dX12_rankOf_14 : decode cX12_rankOf 14 = .ok (.imul, 1) := by decide +kernel
theorem dX12_rankOf_15 : decode cX12_rankOf 15 = .ok (.aload_n 0, 1) := by decide +kernel
theorem dX12_rankOf_16 : decode cX12_rankOf 16 = .ok (.getfield 50, 3) := by decide +kernel
theorem dX12_rankOf_19 : decode cX12_rankOf 19 = .ok (.iconst 4, 1) := by decide +kernel
theorem dX12_rankOf_20 : decode cX12_rankOf 20 = .ok (.iload_n 1, 1) := by decide +kernel
theorem dX12_rankOf_21 : decode cX12_rankOf 21 = .ok (.imul, 1) := by decide +kernel
theorem dX12_rankOf_22 : decode cX12_rankOf 22 = .ok (.iload_n 2, 1) := by decide +kernel
theorem dX12_rankOf_23 : decode cX12_rankOf 23 = .ok (.iadd, 1) := by decide +kernel
theorem dX12_rankOf_24 : decode cX12_rankOf 24 = .ok (.iaload, 1) := by decide +kernel
theorem dX12_rankOf_25 : decode cX12_rankOf 25 = .ok (.aload_n 0, 1) := by decide +kernel
theorem dX12_rankOf_26 : decode cX12_rankOf 26 = .ok (.iload_n 2, 1) := by decide +kernel
theorem dX12_rankOf_27 : decode cX12_rankOf 27 = .ok (.invokevirtual 259, 3) := by decide +kernel
theorem dX12_rankOf_30 : decode cX12_rankOf 30 = .ok (.iconst 1, 1) := by decide +kernel
theorem dX12_rankOf_31 : decode cX12_rankOf 31 = .ok (.isub, 1) := by decide +kernel
theorem dX12_rankOf_32 : decode cX12_rankOf 32 = .ok (.invokestatic 64, 3) := by decide +kernel
theorem dX12_rankOf_35 : decode cX12_rankOf 35 = .ok (.ifCond .eq 7, 3) := by decide +kernel
theorem dX12_rankOf_38 : decode cX12_rankOf 38 = .ok (.iconst 1, 1) := by decide +kernel
theorem dX12_rankOf_39 : decode cX12_rankOf 39 = .ok (.goto 4, 3) := by decide +kernel
theorem dX12_rankOf_42 : decode cX12_rankOf 42 = .ok (.iconst 0, 1) := by decide +kernel
theorem dX12_rankOf_43 : decode cX12_rankOf 43 = .ok (.iadd, 1) := by decide +kernel
theorem dX12_rankOf_44 : decode cX12_rankOf 44 = .ok (.ireturn, 1) := by decide +kernel
theorem dX12_rank_0 : decode cX12_rank 0 = .ok (.iconst 0, 1) := by decide +kernel
theorem dX12_rank_1 : decode cX12_rank 1 = .ok (.istore_n 3, 1) := by decide +kernel
theorem dX12_rank_2 : decode cX12_rank 2 = .ok (.iload_n 3, 1) := by decide +kernel
theorem dX12_rank_3 : decode cX12_rank 3 = .ok (.aload_n 0, 1) := by decide +kernel
theorem dX12_rank_4 : decode cX12_rank 4 = .ok (.getfield 35, 3) := by decide +kernel
theorem dX12_rank_7 : decode cX12_rank 7 = .ok (.iconst 0, 1) := by decide +kernel
theorem dX12_rank_8 : decode cX12_rank 8 = .ok (.iaload, 1) := by decide +kernel
theorem dX12_rank_9 : decode cX12_rank 9 = .ok (.if_icmp .ge 88, 3) := by decide +kernel
theorem dX12_rank_12 : decode cX12_rank 12 = .ok (.iconst 0, 1) := by decide +kernel
theorem dX12_rank_13 : decode cX12_rank 13 = .ok (.istore 4, 2) := by decide +kernel
theorem dX12_rank_15 : decode cX12_rank 15 = .ok (.iconst 0, 1) := by decide +kernel
theorem dX12_rank_16 : decode cX12_rank 16 = .ok (.istore 5, 2) := by decide +kernel
theorem dX12_rank_18 : decode cX12_rank 18 = .ok (.iload 5, 2) := by decide +kernel
theorem dX12_rank_20 : decode cX12_rank 20 = .ok (.aload_n 0, 1) := by decide +kernel
theorem dX12_rank_21 : decode cX12_rank 21 = .ok (.getfield 35, 3) := by decide +kernel
theorem dX12_rank_24 : decode cX12_rank 24 = .ok (.iconst 0, 1) := by decide +kernel
theorem dX12_rank_25 : decode cX12_rank 25 = .ok (.iaload, 1) := by decide +kernel
theorem dX12_rank_26 : decode cX12_rank 26 = .ok (.if_icmp .ge 57, 3) := by decide +kernel
theorem dX12_rank_29 : decode cX12_rank 29 = .ok (.iload 4, 2) := by decide +kernel
theorem dX12_rank_31 : decode cX12_rank 31 = .ok (.aload_n 0, 1) := by decide +kernel
theorem dX12_rank_32 : decode cX12_rank 32 = .ok (.iload_n 1, 1) := by decide +kernel
theorem dX12_rank_33 : decode cX12_rank 33 = .ok (.iload 5, 2) := by decide +kernel
theorem dX12_rank_35 : decode cX12_rank 35 = .ok (.invokevirtual 404, 3) := by decide +kernel
theorem dX12_rank_38 : decode cX12_rank 38 = .ok (.aload_n 0, 1) := by decide +kernel
theorem dX12_rank_39 : decode cX12_rank 39 = .ok (.iload_n 1, 1) := by decide +kernel
theorem dX12_rank_40 : decode cX12_rank 40 = .ok (.iload_n 3, 1) := by decide +kernel
theorem dX12_rank_41 : decode cX12_rank 41 = .ok (.invokevirtual 404, 3) := by decide +kernel
theorem dX12_rank_44 : decode cX12_rank 44 = .ok (.if_icmp .gt 25, 3) := by decide +kernel
theorem dX12_rank_47 : decode cX12_rank 47 = .ok (.aload_n 0, 1) := by decide +kernel
theorem dX12_rank_48 : decode cX12_rank 48 = .ok (.iload_n 1, 1) := by decide +kernel
theorem dX12_rank_49 : decode cX12_rank 49 = .ok (.iload 5, 2) := by decide +kernel
theorem dX12_rank_51 : decode cX12_rank 51 = .ok (.invokevirtual 404, 3) := by decide +kernel
theorem dX12_rank_54 : decode cX12_rank 54 = .ok (.aload_n 0, 1) := by decide +kernel
theorem dX12_rank_55 : decode cX12_rank 55 = .ok (.iload_n 1, 1) := by decide +kernel
theorem dX12_rank_56 : decode cX12_rank 56 = .ok (.iload_n 3, 1) := by decide +kernel
theorem dX12_rank_57 : decode cX12_rank 57 = .ok (.invokevirtual 404, 3) := by decide +kernel
theorem dX12_rank_60 : decode cX12_rank 60 = .ok (.if_icmp .ne 13, 3) := by decide +kernel
theorem dX12_rank_63 : decode cX12_rank 63 = .ok (.iload 5, 2) := by decide +kernel
theorem dX12_rank_65 : decode cX12_rank 65 = .ok (.iload_n 3, 1) := by decide +kernel
theorem dX12_rank_66 : decode cX12_rank 66 = .ok (.if_icmp .ge 7, 3) := by decide +kernel
theorem dX12_rank_69 : decode cX12_rank 69 = .ok (.iconst 1, 1) := by decide +kernel
theorem dX12_rank_70 : decode cX12_rank 70 = .ok (.goto 4, 3) := by decide +kernel
theorem dX12_rank_73 : decode cX12_rank 73 = .ok (.iconst 0, 1) := by decide +kernel
theorem dX12_rank_74 : decode cX12_rank 74 = .ok (.iadd, 1) := by decide +kernel
theorem dX12_rank_75 : decode cX12_rank 75 = .ok (.istore 4, 2) := by decide +kernel
theorem dX12_rank_77 : decode cX12_rank 77 = .ok (.iinc 5 1, 3) := by decide +kernel
theorem dX12_rank_80 : decode cX12_rank 80 = .ok (.goto (-62), 3) := by decide +kernel
theorem dX12_rank_83 : decode cX12_rank 83 = .ok (.iload 4, 2) := by decide +kernel
theorem dX12_rank_85 : decode cX12_rank 85 = .ok (.iload_n 2, 1) := by decide +kernel
theorem dX12_rank_86 : decode cX12_rank 86 = .ok (.if_icmp .ne 5, 3) := by decide +kernel
theorem dX12_rank_89 : decode cX12_rank 89 = .ok (.iload_n 3, 1) := by decide +kernel
theorem dX12_rank_90 : decode cX12_rank 90 = .ok (.ireturn, 1) := by decide +kernel
theorem dX12_rank_91 : decode cX12_rank 91 = .ok (.iinc 3 1, 3) := by decide +kernel
theorem dX12_rank_94 : decode cX12_rank 94 = .ok (.goto (-92), 3) := by decide +kernel
theorem dX12_rank_97 : decode cX12_rank 97 = .ok (.iconst (-1), 1) := by decide +kernel
theorem dX12_rank_98 : decode cX12_rank 98 = .ok (.ireturn, 1) := by decide +kernel
theorem dX12_found_0 : decode cX12_found 0 = .ok (.aload_n 0, 1) := by decide +kernel
theorem dX12_found_1 : decode cX12_found 1 = .ok (.iconst 0, 1) := by decide +kernel
theorem dX12_found_2 : decode cX12_found 2 = .ok (.putfield 60, 3) := by decide +kernel
theorem dX12_found_5 : decode cX12_found 5 = .ok (.aload_n 0, 1) := by decide +kernel
theorem dX12_found_6 : decode cX12_found 6 = .ok (.iload_n 1, 1) := by decide +kernel
theorem dX12_found_7 : decode cX12_found 7 = .ok (.iload_n 2, 1) := by decide +kernel
theorem dX12_found_8 : decode cX12_found 8 = .ok (.invokevirtual 395, 3) := by decide +kernel
theorem dX12_found_11 : decode cX12_found 11 = .ok (.ifCond .eq 16, 3) := by decide +kernel
theorem dX12_found_14 : decode cX12_found 14 = .ok (.aload_n 0, 1) := by decide +kernel
theorem dX12_found_15 : decode cX12_found 15 = .ok (.iload_n 3, 1) := by decide +kernel
theorem dX12_found_16 : decode cX12_found 16 = .ok (.invokevirtual 398, 3) := by decide +kernel
theorem dX12_found_19 : decode cX12_found 19 = .ok (.ifCond .eq 8, 3) := by decide +kernel
theorem dX12_found_22 : decode cX12_found 22 = .ok (.iload 4, 2) := by decide +kernel
theorem dX12_found_24 : decode cX12_found 24 = .ok (.ifCond .ge 5, 3) := by decide +kernel
theorem dX12_found_27 : decode cX12_found 27 = .ok (.iconst (-1), 1) := by decide +kernel
theorem dX12_found_28 : decode cX12_found 28 = .ok (.ireturn, 1) := by decide +kernel
theorem dX12_found_29 : decode cX12_found 29 = .ok (.iload 4, 2) := by decide +kernel
theorem dX12_found_31 : decode cX12_found 31 = .ok (.bipush 100, 2) := by decide +kernel
theorem dX12_found_33 : decode cX12_found 33 = .ok (.if_icmp .lt 36, 3) := by decide +kernel
theorem dX12_found_36 : decode cX12_found 36 = .ok (.iload 4, 2) := by decide +kernel
theorem dX12_found_38 : decode cX12_found 38 = .ok (.sipush 200, 3) := by decide +kernel
theorem dX12_found_41 : decode cX12_found 41 = .ok (.if_icmp .ge 16, 3) := by decide +kernel
theorem dX12_found_44 : decode cX12_found 44 = .ok (.aload_n 0, 1) := by decide +kernel
theorem dX12_found_45 : decode cX12_found 45 = .ok (.iload_n 3, 1) := by decide +kernel
theorem dX12_found_46 : decode cX12_found 46 = .ok (.iload 4, 2) := by decide +kernel
theorem dX12_found_48 : decode cX12_found 48 = .ok (.bipush 100, 2) := by decide +kernel
theorem dX12_found_50 : decode cX12_found 50 = .ok (.isub, 1) := by decide +kernel
theorem dX12_found_51 : decode cX12_found 51 = .ok (.invokevirtual 401, 3) := by decide +kernel
theorem dX12_found_54 : decode cX12_found 54 = .ok (.goto 14, 3) := by decide +kernel
theorem dX12_found_57 : decode cX12_found 57 = .ok (.aload_n 0, 1) := by decide +kernel
theorem dX12_found_58 : decode cX12_found 58 = .ok (.iload_n 3, 1) := by decide +kernel
theorem dX12_found_59 : decode cX12_found 59 = .ok (.iload 4, 2) := by decide +kernel
theorem dX12_found_61 : decode cX12_found 61 = .ok (.sipush 200, 3) := by decide +kernel
theorem dX12_found_64 : decode cX12_found 64 = .ok (.isub, 1) := by decide +kernel
theorem dX12_found_65 : decode cX12_found 65 = .ok (.invokevirtual 407, 3) := by decide +kernel
theorem dX12_found_68 : decode cX12_found 68 = .ok (.ireturn, 1) := by decide +kernel
theorem dX12_found_69 : decode cX12_found 69 = .ok (.iload 4, 2) := by decide +kernel
theorem dX12_found_71 : decode cX12_found 71 = .ok (.bipush 10, 2) := by decide +kernel
theorem dX12_found_73 : decode cX12_found 73 = .ok (.if_icmp .lt 14, 3) := by decide +kernel
theorem dX12_found_76 : decode cX12_found 76 = .ok (.aload_n 0, 1) := by decide +kernel
theorem dX12_found_77 : decode cX12_found 77 = .ok (.iload_n 3, 1) := by decide +kernel
theorem dX12_found_78 : decode cX12_found 78 = .ok (.iload 4, 2) := by decide +kernel
theorem dX12_found_80 : decode cX12_found 80 = .ok (.bipush 10, 2) := by decide +kernel
theorem dX12_found_82 : decode cX12_found 82 = .ok (.isub, 1) := by decide +kernel
theorem dX12_found_83 : decode cX12_found 83 = .ok (.invokevirtual 410, 3) := by decide +kernel
theorem dX12_found_86 : decode cX12_found 86 = .ok (.ireturn, 1) := by decide +kernel
theorem dX12_found_87 : decode cX12_found 87 = .ok (.iload 4, 2) := by decide +kernel
theorem dX12_found_89 : decode cX12_found 89 = .ok (.tableswitch 61 0 3 #[31, 31, 48, 55], 31) := by decide +kernel
theorem dX12_found_120 : decode cX12_found 120 = .ok (.aload_n 0, 1) := by decide +kernel
theorem dX12_found_121 : decode cX12_found 121 = .ok (.iload_n 3, 1) := by decide +kernel
theorem dX12_found_122 : decode cX12_found 122 = .ok (.iload 4, 2) := by decide +kernel
theorem dX12_found_124 : decode cX12_found 124 = .ok (.iconst 1, 1) := by decide +kernel
theorem dX12_found_125 : decode cX12_found 125 = .ok (.if_icmp .ne 7, 3) := by decide +kernel
theorem dX12_found_128 : decode cX12_found 128 = .ok (.iconst 1, 1) := by decide +kernel
theorem dX12_found_129 : decode cX12_found 129 = .ok (.goto 4, 3) := by decide +kernel
theorem dX12_found_132 : decode cX12_found 132 = .ok (.iconst 0, 1) := by decide +kernel
theorem dX12_found_133 : decode cX12_found 133 = .ok (.invokevirtual 413, 3) := by decide +kernel
theorem dX12_found_136 : decode cX12_found 136 = .ok (.ireturn, 1) := by decide +kernel
theorem dX12_found_137 : decode cX12_found 137 = .ok (.aload_n 0, 1) := by decide +kernel
theorem dX12_found_138 : decode cX12_found 138 = .ok (.iload_n 3, 1) := by decide +kernel
theorem dX12_found_139 : decode cX12_found 139 = .ok (.iconst (-1), 1) := by decide +kernel
theorem dX12_found_140 : decode cX12_found 140 = .ok (.invokevirtual 407, 3) := by decide +kernel
theorem dX12_found_143 : decode cX12_found 143 = .ok (.ireturn, 1) := by decide +kernel
theorem dX12_found_144 : decode cX12_found 144 = .ok (.aload_n 0, 1) := by decide +kernel
theorem dX12_found_145 : decode cX12_found 145 = .ok (.iload_n 3, 1) := by decide +kernel
theorem dX12_found_146 : decode cX12_found 146 = .ok (.invokevirtual 416, 3) := by decide +kernel
theorem dX12_found_149 : decode cX12_found 149 = .ok (.ireturn, 1) := by decide +kernel
theorem dX12_found_150 : decode cX12_found 150 = .ok (.iconst (-1), 1) := by decide +kernel
theorem dX12_found_151 : decode cX12_found 151 = .ok (.ireturn, 1) := by decide +kernel
theorem dX12_isWithin_0 : decode cX12_isWithin 0 = .ok (.iconst 1, 1) := by decide +kernel
theorem dX12_isWithin_1 : decode cX12_isWithin 1 = .ok (.istore_n 3, 1) := by decide +kernel
theorem dX12_isWithin_2 : decode cX12_isWithin 2 = .ok (.iconst 0, 1) := by decide +kernel
theorem dX12_isWithin_3 : decode cX12_isWithin 3 = .ok (.istore 4, 2) := by decide +kernel
theorem dX12_isWithin_5 : decode cX12_isWithin 5 = .ok (.iload 4, 2) := by decide +kernel
theorem dX12_isWithin_7 : decode cX12_isWithin 7 = .ok (.aload_n 0, 1) := by decide +kernel
theorem dX12_isWithin_8 : decode cX12_isWithin 8 = .ok (.getfield 35, 3) := by decide +kernel
theorem dX12_isWithin_11 : decode cX12_isWithin 11 = .ok (.iconst 0, 1) := by decide +kernel
theorem dX12_isWithin_12 : decode cX12_isWithin 12 = .ok (.iaload, 1) := by decide +kernel
theorem dX12_isWithin_13 : decode cX12_isWithin 13 = .ok (.if_icmp .ge 47, 3) := by decide +kernel
theorem dX12_isWithin_16 : decode cX12_isWithin 16 = .ok (.iload_n 3, 1) := by decide +kernel
theorem dX12_isWithin_17 : decode cX12_isWithin 17 = .ok (.ifCond .eq 35, 3) := by decide +kernel
theorem dX12_isWithin_20 : decode cX12_isWithin 20 = .ok (.aload_n 0, 1) := by decide +kernel
theorem dX12_isWithin_21 : decode cX12_isWithin 21 = .ok (.getfield 50, 3) := by decide +kernel
theorem dX12_isWithin_24 : decode cX12_isWithin 24 = .ok (.iconst 4, 1) := by decide +kernel
theorem dX12_isWithin_25 : decode cX12_isWithin 25 = .ok (.iload_n 1, 1) := by decide +kernel
theorem dX12_isWithin_26 : decode cX12_isWithin 26 = .ok (.imul, 1) := by decide +kernel
theorem dX12_isWithin_27 : decode cX12_isWithin 27 = .ok (.iload 4, 2) := by decide +kernel
theorem dX12_isWithin_29 : decode cX12_isWithin 29 = .ok (.iadd, 1) := by decide +kernel
theorem dX12_isWithin_30 : decode cX12_isWithin 30 = .ok (.iaload, 1) := by decide +kernel
theorem dX12_isWithin_31 : decode cX12_isWithin 31 = .ok (.aload_n 0, 1) := by decide +kernel
theorem dX12_isWithin_32 : decode cX12_isWithin 32 = .ok (.getfield 50, 3) := by decide +kernel
theorem dX12_isWithin_35 : decode cX12_isWithin 35 = .ok (.iconst 4, 1) := by decide +kernel
theorem dX12_isWithin_36 : decode cX12_isWithin 36 = .ok (.iload_n 2, 1) := by decide +kernel
theorem dX12_isWithin_37 : decode cX12_isWithin 37 = .ok (.imul, 1) := by decide +kernel
theorem dX12_isWithin_38 : decode cX12_isWithin 38 = .ok (.iload 4, 2) := by decide +kernel
theorem dX12_isWithin_40 : decode cX12_isWithin 40 = .ok (.iadd, 1) := by decide +kernel
theorem dX12_isWithin_41 : decode cX12_isWithin 41 = .ok (.iaload, 1) := by decide +kernel
theorem dX12_isWithin_42 : decode cX12_isWithin 42 = .ok (.iconst (-1), 1) := by decide +kernel
theorem dX12_isWithin_43 : decode cX12_isWithin 43 = .ok (.ixor, 1) := by decide +kernel
theorem dX12_isWithin_44 : decode cX12_isWithin 44 = .ok (.iand, 1) := by decide +kernel
theorem dX12_isWithin_45 : decode cX12_isWithin 45 = .ok (.ifCond .ne 7, 3) := by decide +kernel
theorem dX12_isWithin_48 : decode cX12_isWithin 48 = .ok (.iconst 1, 1) := by decide +kernel
theorem dX12_isWithin_49 : decode cX12_isWithin 49 = .ok (.goto 4, 3) := by decide +kernel
theorem dX12_isWithin_52 : decode cX12_isWithin 52 = .ok (.iconst 0, 1) := by decide +kernel
theorem dX12_isWithin_53 : decode cX12_isWithin 53 = .ok (.istore_n 3, 1) := by decide +kernel
theorem dX12_isWithin_54 : decode cX12_isWithin 54 = .ok (.iinc 4 1, 3) := by decide +kernel
theorem dX12_isWithin_57 : decode cX12_isWithin 57 = .ok (.goto (-52), 3) := by decide +kernel
theorem dX12_isWithin_60 : decode cX12_isWithin 60 = .ok (.iload_n 3, 1) := by decide +kernel
theorem dX12_isWithin_61 : decode cX12_isWithin 61 = .ok (.ireturn, 1) := by decide +kernel
theorem dX12_bestAsking_0 : decode cX12_bestAsking 0 = .ok (.iconst (-1), 1) := by decide +kernel
theorem dX12_bestAsking_1 : decode cX12_bestAsking 1 = .ok (.istore_n 1, 1) := by decide +kernel
theorem dX12_bestAsking_2 : decode cX12_bestAsking 2 = .ok (.iconst 0, 1) := by decide +kernel
theorem dX12_bestAsking_3 : decode cX12_bestAsking 3 = .ok (.istore_n 2, 1) := by decide +kernel
theorem dX12_bestAsking_4 : decode cX12_bestAsking 4 = .ok (.iload_n 2, 1) := by decide +kernel
theorem dX12_bestAsking_5 : decode cX12_bestAsking 5 = .ok (.aload_n 0, 1) := by decide +kernel
theorem dX12_bestAsking_6 : decode cX12_bestAsking 6 = .ok (.invokevirtual 377, 3) := by decide +kernel
theorem dX12_bestAsking_9 : decode cX12_bestAsking 9 = .ok (.if_icmp .ge 33, 3) := by decide +kernel
theorem dX12_bestAsking_12 : decode cX12_bestAsking 12 = .ok (.iload_n 1, 1) := by decide +kernel
theorem dX12_bestAsking_13 : decode cX12_bestAsking 13 = .ok (.iconst (-1), 1) := by decide +kernel
theorem dX12_bestAsking_14 : decode cX12_bestAsking 14 = .ok (.if_icmp .eq 16, 3) := by decide +kernel
theorem dX12_bestAsking_17 : decode cX12_bestAsking 17 = .ok (.aload_n 0, 1) := by decide +kernel
theorem dX12_bestAsking_18 : decode cX12_bestAsking 18 = .ok (.iload_n 2, 1) := by decide +kernel
theorem dX12_bestAsking_19 : decode cX12_bestAsking 19 = .ok (.invokevirtual 416, 3) := by decide +kernel
theorem dX12_bestAsking_22 : decode cX12_bestAsking 22 = .ok (.aload_n 0, 1) := by decide +kernel
theorem dX12_bestAsking_23 : decode cX12_bestAsking 23 = .ok (.iload_n 1, 1) := by decide +kernel
theorem dX12_bestAsking_24 : decode cX12_bestAsking 24 = .ok (.invokevirtual 416, 3) := by decide +kernel
theorem dX12_bestAsking_27 : decode cX12_bestAsking 27 = .ok (.if_icmp .le 7, 3) := by decide +kernel
theorem dX12_bestAsking_30 : decode cX12_bestAsking 30 = .ok (.iload_n 2, 1) := by decide +kernel
theorem dX12_bestAsking_31 : decode cX12_bestAsking 31 = .ok (.goto 4, 3) := by decide +kernel
theorem dX12_bestAsking_34 : decode cX12_bestAsking 34 = .ok (.iload_n 1, 1) := by decide +kernel
theorem dX12_bestAsking_35 : decode cX12_bestAsking 35 = .ok (.istore_n 1, 1) := by decide +kernel
theorem dX12_bestAsking_36 : decode cX12_bestAsking 36 = .ok (.iinc 2 1, 3) := by decide +kernel
theorem dX12_bestAsking_39 : decode cX12_bestAsking 39 = .ok (.goto (-35), 3) := by decide +kernel
theorem dX12_bestAsking_42 : decode cX12_bestAsking 42 = .ok (.iload_n 1, 1) := by decide +kernel
theorem dX12_bestAsking_43 : decode cX12_bestAsking 43 = .ok (.ireturn, 1) := by decide +kernel
theorem dX12_samePairs_0 : decode cX12_samePairs 0 = .ok (.iconst 0, 1) := by decide +kernel
theorem dX12_samePairs_1 : decode cX12_samePairs 1 = .ok (.istore_n 1, 1) := by decide +kernel
theorem dX12_samePairs_2 : decode cX12_samePairs 2 = .ok (.iconst 0, 1) := by decide +kernel
theorem dX12_samePairs_3 : decode cX12_samePairs 3 = .ok (.istore_n 2, 1) := by decide +kernel
theorem dX12_samePairs_4 : decode cX12_samePairs 4 = .ok (.iload_n 2, 1) := by decide +kernel
theorem dX12_samePairs_5 : decode cX12_samePairs 5 = .ok (.aload_n 0, 1) := by decide +kernel
theorem dX12_samePairs_6 : decode cX12_samePairs 6 = .ok (.invokevirtual 377, 3) := by decide +kernel
theorem dX12_samePairs_9 : decode cX12_samePairs 9 = .ok (.if_icmp .ge 48, 3) := by decide +kernel
theorem dX12_samePairs_12 : decode cX12_samePairs 12 = .ok (.iconst 0, 1) := by decide +kernel
theorem dX12_samePairs_13 : decode cX12_samePairs 13 = .ok (.istore_n 3, 1) := by decide +kernel
theorem dX12_samePairs_14 : decode cX12_samePairs 14 = .ok (.iload_n 3, 1) := by decide +kernel
theorem dX12_samePairs_15 : decode cX12_samePairs 15 = .ok (.iload_n 2, 1) := by decide +kernel
theorem dX12_samePairs_16 : decode cX12_samePairs 16 = .ok (.if_icmp .ge 35, 3) := by decide +kernel
theorem dX12_samePairs_19 : decode cX12_samePairs 19 = .ok (.iload_n 1, 1) := by decide +kernel
theorem dX12_samePairs_20 : decode cX12_samePairs 20 = .ok (.aload_n 0, 1) := by decide +kernel
theorem dX12_samePairs_21 : decode cX12_samePairs 21 = .ok (.iload_n 2, 1) := by decide +kernel
theorem dX12_samePairs_22 : decode cX12_samePairs 22 = .ok (.iload_n 3, 1) := by decide +kernel
theorem dX12_samePairs_23 : decode cX12_samePairs 23 = .ok (.invokevirtual 419, 3) := by decide +kernel
theorem dX12_samePairs_26 : decode cX12_samePairs 26 = .ok (.ifCond .eq 16, 3) := by decide +kernel
theorem dX12_samePairs_29 : decode cX12_samePairs 29 = .ok (.aload_n 0, 1) := by decide +kernel
theorem dX12_samePairs_30 : decode cX12_samePairs 30 = .ok (.iload_n 3, 1) := by decide +kernel
theorem dX12_samePairs_31 : decode cX12_samePairs 31 = .ok (.iload_n 2, 1) := by decide +kernel
theorem dX12_samePairs_32 : decode cX12_samePairs 32 = .ok (.invokevirtual 419, 3) := by decide +kernel
theorem dX12_samePairs_35 : decode cX12_samePairs 35 = .ok (.ifCond .eq 7, 3) := by decide +kernel
theorem dX12_samePairs_38 : decode cX12_samePairs 38 = .ok (.iconst 1, 1) := by decide +kernel
theorem dX12_samePairs_39 : decode cX12_samePairs 39 = .ok (.goto 4, 3) := by decide +kernel
theorem dX12_samePairs_42 : decode cX12_samePairs 42 = .ok (.iconst 0, 1) := by decide +kernel
theorem dX12_samePairs_43 : decode cX12_samePairs 43 = .ok (.iadd, 1) := by decide +kernel
theorem dX12_samePairs_44 : decode cX12_samePairs 44 = .ok (.istore_n 1, 1) := by decide +kernel
theorem dX12_samePairs_45 : decode cX12_samePairs 45 = .ok (.iinc 3 1, 3) := by decide +kernel
theorem dX12_samePairs_48 : decode cX12_samePairs 48 = .ok (.goto (-34), 3) := by decide +kernel
theorem dX12_samePairs_51 : decode cX12_samePairs 51 = .ok (.iinc 2 1, 3) := by decide +kernel
theorem dX12_samePairs_54 : decode cX12_samePairs 54 = .ok (.goto (-50), 3) := by decide +kernel
theorem dX12_samePairs_57 : decode cX12_samePairs 57 = .ok (.iload_n 1, 1) := by decide +kernel
theorem dX12_samePairs_58 : decode cX12_samePairs 58 = .ok (.ireturn, 1) := by decide +kernel
theorem dX12_best_0 : decode cX12_best 0 = .ok (.aload_n 0, 1) := by decide +kernel
theorem dX12_best_1 : decode cX12_best 1 = .ok (.iconst 0, 1) := by decide +kernel
theorem dX12_best_2 : decode cX12_best 2 = .ok (.putfield 60, 3) := by decide +kernel
theorem dX12_best_5 : decode cX12_best 5 = .ok (.aload_n 0, 1) := by decide +kernel
theorem dX12_best_6 : decode cX12_best 6 = .ok (.iload_n 1, 1) := by decide +kernel
theorem dX12_best_7 : decode cX12_best 7 = .ok (.iload_n 2, 1) := by decide +kernel
theorem dX12_best_8 : decode cX12_best 8 = .ok (.invokevirtual 395, 3) := by decide +kernel
theorem dX12_best_11 : decode cX12_best 11 = .ok (.ifCond .ne 6, 3) := by decide +kernel
theorem dX12_best_14 : decode cX12_best 14 = .ok (.bipush (-2), 2) := by decide +kernel
theorem dX12_best_16 : decode cX12_best 16 = .ok (.ireturn, 1) := by decide +kernel
theorem dX12_best_17 : decode cX12_best 17 = .ok (.iload_n 3, 1) := by decide +kernel
theorem dX12_best_18 : decode cX12_best 18 = .ok (.ifCond .ne 10, 3) := by decide +kernel
theorem dX12_best_21 : decode cX12_best 21 = .ok (.aload_n 0, 1) := by decide +kernel
theorem dX12_best_22 : decode cX12_best 22 = .ok (.invokevirtual 422, 3) := by decide +kernel
theorem dX12_best_25 : decode cX12_best 25 = .ok (.goto 17, 3) := by decide +kernel
theorem dX12_best_28 : decode cX12_best 28 = .ok (.iload_n 3, 1) := by decide +kernel
theorem dX12_best_29 : decode cX12_best 29 = .ok (.iconst 1, 1) := by decide +kernel
theorem dX12_best_30 : decode cX12_best 30 = .ok (.if_icmp .ne 10, 3) := by decide +kernel
theorem dX12_best_33 : decode cX12_best 33 = .ok (.aload_n 0, 1) := by decide +kernel
theorem dX12_best_34 : decode cX12_best 34 = .ok (.invokevirtual 425, 3) := by decide +kernel
theorem dX12_best_37 : decode cX12_best 37 = .ok (.goto 5, 3) := by decide +kernel
theorem dX12_best_40 : decode cX12_best 40 = .ok (.bipush (-2), 2) := by decide +kernel
theorem dX12_best_42 : decode cX12_best 42 = .ok (.ireturn, 1) := by decide +kernel
theorem dX12_implies_0 : decode cX12_implies 0 = .ok (.aload_n 0, 1) := by decide +kernel
theorem dX12_implies_1 : decode cX12_implies 1 = .ok (.iconst 0, 1) := by decide +kernel
theorem dX12_implies_2 : decode cX12_implies 2 = .ok (.putfield 60, 3) := by decide +kernel
theorem dX12_implies_5 : decode cX12_implies 5 = .ok (.aload_n 0, 1) := by decide +kernel
theorem dX12_implies_6 : decode cX12_implies 6 = .ok (.iload_n 1, 1) := by decide +kernel
theorem dX12_implies_7 : decode cX12_implies 7 = .ok (.iload_n 2, 1) := by decide +kernel
theorem dX12_implies_8 : decode cX12_implies 8 = .ok (.invokevirtual 395, 3) := by decide +kernel
theorem dX12_implies_11 : decode cX12_implies 11 = .ok (.ifCond .eq 20, 3) := by decide +kernel
theorem dX12_implies_14 : decode cX12_implies 14 = .ok (.aload_n 0, 1) := by decide +kernel
theorem dX12_implies_15 : decode cX12_implies 15 = .ok (.iload_n 3, 1) := by decide +kernel
theorem dX12_implies_16 : decode cX12_implies 16 = .ok (.invokevirtual 398, 3) := by decide +kernel
theorem dX12_implies_19 : decode cX12_implies 19 = .ok (.ifCond .eq 12, 3) := by decide +kernel
theorem dX12_implies_22 : decode cX12_implies 22 = .ok (.aload_n 0, 1) := by decide +kernel
theorem dX12_implies_23 : decode cX12_implies 23 = .ok (.iload 4, 2) := by decide +kernel
theorem dX12_implies_25 : decode cX12_implies 25 = .ok (.invokevirtual 398, 3) := by decide +kernel
theorem dX12_implies_28 : decode cX12_implies 28 = .ok (.ifCond .ne 5, 3) := by decide +kernel
theorem dX12_implies_31 : decode cX12_implies 31 = .ok (.iconst (-1), 1) := by decide +kernel
theorem dX12_implies_32 : decode cX12_implies 32 = .ok (.ireturn, 1) := by decide +kernel
theorem dX12_implies_33 : decode cX12_implies 33 = .ok (.aload_n 0, 1) := by decide +kernel
theorem dX12_implies_34 : decode cX12_implies 34 = .ok (.iload_n 3, 1) := by decide +kernel
theorem dX12_implies_35 : decode cX12_implies 35 = .ok (.iload 4, 2) := by decide +kernel
theorem dX12_implies_37 : decode cX12_implies 37 = .ok (.invokevirtual 419, 3) := by decide +kernel
theorem dX12_implies_40 : decode cX12_implies 40 = .ok (.ifCond .eq 7, 3) := by decide +kernel
theorem dX12_implies_43 : decode cX12_implies 43 = .ok (.iconst 1, 1) := by decide +kernel
theorem dX12_implies_44 : decode cX12_implies 44 = .ok (.goto 4, 3) := by decide +kernel
theorem dX12_implies_47 : decode cX12_implies 47 = .ok (.iconst 0, 1) := by decide +kernel
theorem dX12_implies_48 : decode cX12_implies 48 = .ok (.ireturn, 1) := by decide +kernel
theorem dX12_facts_0 : decode cX12_facts 0 = .ok (.aload_n 0, 1) := by decide +kernel
theorem dX12_facts_1 : decode cX12_facts 1 = .ok (.getfield 32, 3) := by decide +kernel
theorem dX12_facts_4 : decode cX12_facts 4 = .ok (.bipush 25, 2) := by decide +kernel
theorem dX12_facts_6 : decode cX12_facts 6 = .ok (.aload_n 0, 1) := by decide +kernel
theorem dX12_facts_7 : decode cX12_facts 7 = .ok (.getfield 428, 3) := by decide +kernel
theorem dX12_facts_10 : decode cX12_facts 10 = .ok (.imul, 1) := by decide +kernel
theorem dX12_facts_11 : decode cX12_facts 11 = .ok (.iaload, 1) := by decide +kernel
theorem dX12_facts_12 : decode cX12_facts 12 = .ok (.ireturn, 1) := by decide +kernel
theorem dX12_factOf_0 : decode cX12_factOf 0 = .ok (.aload_n 0, 1) := by decide +kernel
theorem dX12_factOf_1 : decode cX12_factOf 1 = .ok (.getfield 32, 3) := by decide +kernel
theorem dX12_factOf_4 : decode cX12_factOf 4 = .ok (.bipush 25, 2) := by decide +kernel
theorem dX12_factOf_6 : decode cX12_factOf 6 = .ok (.aload_n 0, 1) := by decide +kernel
theorem dX12_factOf_7 : decode cX12_factOf 7 = .ok (.getfield 428, 3) := by decide +kernel
theorem dX12_factOf_10 : decode cX12_factOf 10 = .ok (.imul, 1) := by decide +kernel
theorem dX12_factOf_11 : decode cX12_factOf 11 = .ok (.iconst 1, 1) := by decide +kernel
theorem dX12_factOf_12 : decode cX12_factOf 12 = .ok (.iadd, 1) := by decide +kernel
theorem dX12_factOf_13 : decode cX12_factOf 13 = .ok (.iconst 3, 1) := by decide +kernel
theorem dX12_factOf_14 : decode cX12_factOf 14 = .ok (.iload_n 1, 1) := by decide +kernel
theorem dX12_factOf_15 : decode cX12_factOf 15 = .ok (.imul, 1) := by decide +kernel
theorem dX12_factOf_16 : decode cX12_factOf 16 = .ok (.iadd, 1) := by decide +kernel
theorem dX12_factOf_17 : decode cX12_factOf 17 = .ok (.iload_n 2, 1) := by decide +kernel
theorem dX12_factOf_18 : decode cX12_factOf 18 = .ok (.iadd, 1) := by decide +kernel
theorem dX12_factOf_19 : decode cX12_factOf 19 = .ok (.iaload, 1) := by decide +kernel
theorem dX12_factOf_20 : decode cX12_factOf 20 = .ok (.ireturn, 1) := by decide +kernel
theorem dX12_hasHunt_0 : decode cX12_hasHunt 0 = .ok (.aload_n 0, 1) := by decide +kernel
theorem dX12_hasHunt_1 : decode cX12_hasHunt 1 = .ok (.iload_n 1, 1) := by decide +kernel
theorem dX12_hasHunt_2 : decode cX12_hasHunt 2 = .ok (.putfield 428, 3) := by decide +kernel
theorem dX12_hasHunt_5 : decode cX12_hasHunt 5 = .ok (.aload_n 0, 1) := by decide +kernel
theorem dX12_hasHunt_6 : decode cX12_hasHunt 6 = .ok (.iconst 2, 1) := by decide +kernel
theorem dX12_hasHunt_7 : decode cX12_hasHunt 7 = .ok (.iload_n 1, 1) := by decide +kernel
theorem dX12_hasHunt_8 : decode cX12_hasHunt 8 = .ok (.invokevirtual 243, 3) := by decide +kernel
theorem dX12_hasHunt_11 : decode cX12_hasHunt 11 = .ok (.ireturn, 1) := by decide +kernel
theorem dX12_fact_0 : decode cX12_fact 0 = .ok (.aload_n 0, 1) := by decide +kernel
theorem dX12_fact_1 : decode cX12_fact 1 = .ok (.iconst 0, 1) := by decide +kernel
theorem dX12_fact_2 : decode cX12_fact 2 = .ok (.putfield 60, 3) := by decide +kernel
theorem dX12_fact_5 : decode cX12_fact 5 = .ok (.aload_n 0, 1) := by decide +kernel
theorem dX12_fact_6 : decode cX12_fact 6 = .ok (.iload_n 1, 1) := by decide +kernel
theorem dX12_fact_7 : decode cX12_fact 7 = .ok (.invokevirtual 431, 3) := by decide +kernel
theorem dX12_fact_10 : decode cX12_fact 10 = .ok (.ifCond .ne 6, 3) := by decide +kernel
theorem dX12_fact_13 : decode cX12_fact 13 = .ok (.bipush (-2), 2) := by decide +kernel
theorem dX12_fact_15 : decode cX12_fact 15 = .ok (.ireturn, 1) := by decide +kernel
theorem dX12_fact_16 : decode cX12_fact 16 = .ok (.iload_n 2, 1) := by decide +kernel
theorem dX12_fact_17 : decode cX12_fact 17 = .ok (.iconst (-1), 1) := by decide +kernel
theorem dX12_fact_18 : decode cX12_fact 18 = .ok (.if_icmp .ne 17, 3) := by decide +kernel
theorem dX12_fact_21 : decode cX12_fact 21 = .ok (.iload_n 3, 1) := by decide +kernel
theorem dX12_fact_22 : decode cX12_fact 22 = .ok (.ifCond .ne 10, 3) := by decide +kernel
theorem dX12_fact_25 : decode cX12_fact 25 = .ok (.aload_n 0, 1) := by decide +kernel
theorem dX12_fact_26 : decode cX12_fact 26 = .ok (.invokevirtual 434, 3) := by decide +kernel
theorem dX12_fact_29 : decode cX12_fact 29 = .ok (.goto 5, 3) := by decide +kernel
theorem dX12_fact_32 : decode cX12_fact 32 = .ok (.bipush (-2), 2) := by decide +kernel
theorem dX12_fact_34 : decode cX12_fact 34 = .ok (.ireturn, 1) := by decide +kernel
theorem dX12_fact_35 : decode cX12_fact 35 = .ok (.iload_n 2, 1) := by decide +kernel
theorem dX12_fact_36 : decode cX12_fact 36 = .ok (.iconst 0, 1) := by decide +kernel
theorem dX12_fact_37 : decode cX12_fact 37 = .ok (.aload_n 0, 1) := by decide +kernel
theorem dX12_fact_38 : decode cX12_fact 38 = .ok (.invokevirtual 434, 3) := by decide +kernel
theorem dX12_fact_41 : decode cX12_fact 41 = .ok (.iconst 1, 1) := by decide +kernel
theorem dX12_fact_42 : decode cX12_fact 42 = .ok (.isub, 1) := by decide +kernel
theorem dX12_fact_43 : decode cX12_fact 43 = .ok (.invokestatic 72, 3) := by decide +kernel
theorem dX12_fact_46 : decode cX12_fact 46 = .ok (.ifCond .eq 21, 3) := by decide +kernel
theorem dX12_fact_49 : decode cX12_fact 49 = .ok (.iload_n 3, 1) := by decide +kernel
theorem dX12_fact_50 : decode cX12_fact 50 = .ok (.iconst 0, 1) := by decide +kernel
theorem dX12_fact_51 : decode cX12_fact 51 = .ok (.iconst 2, 1) := by decide +kernel
theorem dX12_fact_52 : decode cX12_fact 52 = .ok (.invokestatic 72, 3) := by decide +kernel
theorem dX12_fact_55 : decode cX12_fact 55 = .ok (.ifCond .eq 12, 3) := by decide +kernel
theorem dX12_fact_58 : decode cX12_fact 58 = .ok (.aload_n 0, 1) := by decide +kernel
theorem dX12_fact_59 : decode cX12_fact 59 = .ok (.iload_n 2, 1) := by decide +kernel
theorem dX12_fact_60 : decode cX12_fact 60 = .ok (.iload_n 3, 1) := by decide +kernel
theorem dX12_fact_61 : decode cX12_fact 61 = .ok (.invokevirtual 437, 3) := by decide +kernel
theorem dX12_fact_64 : decode cX12_fact 64 = .ok (.goto 5, 3) := by decide +kernel
theorem dX12_fact_67 : decode cX12_fact 67 = .ok (.bipush (-2), 2) := by decide +kernel
theorem dX12_fact_69 : decode cX12_fact 69 = .ok (.ireturn, 1) := by decide +kernel
theorem dX12_isSo_0 : decode cX12_isSo 0 = .ok (.iconst 0, 1) := by decide +kernel
theorem dX12_isSo_1 : decode cX12_isSo 1 = .ok (.istore_n 2, 1) := by decide +kernel
theorem dX12_isSo_2 : decode cX12_isSo 2 = .ok (.iload_n 2, 1) := by decide +kernel
theorem dX12_isSo_3 : decode cX12_isSo 3 = .ok (.aload_n 0, 1) := by decide +kernel
theorem dX12_isSo_4 : decode cX12_isSo 4 = .ok (.invokevirtual 434, 3) := by decide +kernel
theorem dX12_isSo_7 : decode cX12_isSo 7 = .ok (.if_icmp .ge 74, 3) := by decide +kernel
theorem dX12_isSo_10 : decode cX12_isSo 10 = .ok (.aload_n 0, 1) := by decide +kernel
theorem dX12_isSo_11 : decode cX12_isSo 11 = .ok (.iload_n 2, 1) := by decide +kernel
theorem dX12_isSo_12 : decode cX12_isSo 12 = .ok (.iconst 1, 1) := by decide +kernel
theorem dX12_isSo_13 : decode cX12_isSo 13 = .ok (.invokevirtual 437, 3) := by decide +kernel
theorem dX12_isSo_16 : decode cX12_isSo 16 = .ok (.istore_n 3, 1) := by decide +kernel
theorem dX12_isSo_17 : decode cX12_isSo 17 = .ok (.aload_n 0, 1) := by decide +kernel
theorem dX12_isSo_18 : decode cX12_isSo 18 = .ok (.iload_n 2, 1) := by decide +kernel
theorem dX12_isSo_19 : decode cX12_isSo 19 = .ok (.iconst 2, 1) := by decide +kernel
theorem dX12_isSo_20 : decode cX12_isSo 20 = .ok (.invokevirtual 437, 3) := by decide +kernel
theorem dX12_isSo_23 : decode cX12_isSo 23 = .ok (.istore 4, 2) := by decide +kernel
theorem dX12_isSo_25 : decode cX12_isSo 25 = .ok (.aload_n 0, 1) := by decide +kernel
theorem dX12_isSo_26 : decode cX12_isSo 26 = .ok (.iload_n 3, 1) := by decide +kernel
theorem dX12_isSo_27 : decode cX12_isSo 27 = .ok (.iload 4, 2) := by decide +kernel
theorem dX12_isSo_29 : decode cX12_isSo 29 = .ok (.invokevirtual 284, 3) := by decide +kernel
theorem dX12_isSo_32 : decode cX12_isSo 32 = .ok (.ifCond .eq 18, 3) := by decide +kernel
theorem dX12_isSo_35 : decode cX12_isSo 35 = .ok (.aload_n 0, 1) := by decide +kernel
theorem dX12_isSo_36 : decode cX12_isSo 36 = .ok (.iload_n 3, 1) := by decide +kernel
theorem dX12_isSo_37 : decode cX12_isSo 37 = .ok (.iload 4, 2) := by decide +kernel
theorem dX12_isSo_39 : decode cX12_isSo 39 = .ok (.iload_n 1, 1) := by decide +kernel
theorem dX12_isSo_40 : decode cX12_isSo 40 = .ok (.invokevirtual 362, 3) := by decide +kernel
theorem dX12_isSo_43 : decode cX12_isSo 43 = .ok (.ifCond .le 7, 3) := by decide +kernel
theorem dX12_isSo_46 : decode cX12_isSo 46 = .ok (.iconst 1, 1) := by decide +kernel
theorem dX12_isSo_47 : decode cX12_isSo 47 = .ok (.goto 4, 3) := by decide +kernel
theorem dX12_isSo_50 : decode cX12_isSo 50 = .ok (.iconst 0, 1) := by decide +kernel
theorem dX12_isSo_51 : decode cX12_isSo 51 = .ok (.istore 5, 2) := by decide +kernel
theorem dX12_isSo_53 : decode cX12_isSo 53 = .ok (.iload 5, 2) := by decide +kernel
theorem dX12_isSo_55 : decode cX12_isSo 55 = .ok (.aload_n 0, 1) := by decide +kernel
theorem dX12_isSo_56 : decode cX12_isSo 56 = .ok (.iload_n 2, 1) := by decide +kernel
theorem dX12_isSo_57 : decode cX12_isSo 57 = .ok (.iconst 0, 1) := by decide +kernel
theorem dX12_isSo_58 : decode cX12_isSo 58 = .ok (.invokevirtual 437, 3) := by decide +kernel
theorem dX12_isSo_61 : decode cX12_isSo 61 = .ok (.iconst 1, 1) := by decide +kernel
theorem dX12_isSo_62 : decode cX12_isSo 62 = .ok (.if_icmp .ne 7, 3) := by decide +kernel
theorem dX12_isSo_65 : decode cX12_isSo 65 = .ok (.iconst 1, 1) := by decide +kernel
theorem dX12_isSo_66 : decode cX12_isSo 66 = .ok (.goto 4, 3) := by decide +kernel
theorem dX12_isSo_69 : decode cX12_isSo 69 = .ok (.iconst 0, 1) := by decide +kernel
theorem dX12_isSo_70 : decode cX12_isSo 70 = .ok (.if_icmp .eq 5, 3) := by decide +kernel
theorem dX12_isSo_73 : decode cX12_isSo 73 = .ok (.iconst 0, 1) := by decide +kernel
theorem dX12_isSo_74 : decode cX12_isSo 74 = .ok (.ireturn, 1) := by decide +kernel
theorem dX12_isSo_75 : decode cX12_isSo 75 = .ok (.iinc 2 1, 3) := by decide +kernel
theorem dX12_isSo_78 : decode cX12_isSo 78 = .ok (.goto (-76), 3) := by decide +kernel
theorem dX12_isSo_81 : decode cX12_isSo 81 = .ok (.iconst 1, 1) := by decide +kernel
theorem dX12_isSo_82 : decode cX12_isSo 82 = .ok (.ireturn, 1) := by decide +kernel
theorem dX12_noteFit_0 : decode cX12_noteFit 0 = .ok (.aload_n 0, 1) := by decide +kernel
theorem dX12_noteFit_1 : decode cX12_noteFit 1 = .ok (.aload_n 0, 1) := by decide +kernel
theorem dX12_noteFit_2 : decode cX12_noteFit 2 = .ok (.getfield 440, 3) := by decide +kernel
theorem dX12_noteFit_5 : decode cX12_noteFit 5 = .ok (.iload_n 2, 1) := by decide +kernel
theorem dX12_noteFit_6 : decode cX12_noteFit 6 = .ok (.if_icmp .ne 7, 3) := by decide +kernel
theorem dX12_noteFit_9 : decode cX12_noteFit 9 = .ok (.iload_n 1, 1) := by decide +kernel
theorem dX12_noteFit_10 : decode cX12_noteFit 10 = .ok (.goto 7, 3) := by decide +kernel
theorem dX12_noteFit_13 : decode cX12_noteFit 13 = .ok (.aload_n 0, 1) := by decide +kernel
theorem dX12_noteFit_14 : decode cX12_noteFit 14 = .ok (.getfield 443, 3) := by decide +kernel
theorem dX12_noteFit_17 : decode cX12_noteFit 17 = .ok (.putfield 443, 3) := by decide +kernel
theorem dX12_noteFit_20 : decode cX12_noteFit 20 = .ok (.aload_n 0, 1) := by decide +kernel
theorem dX12_noteFit_21 : decode cX12_noteFit 21 = .ok (.dup, 1) := by decide +kernel
theorem dX12_noteFit_22 : decode cX12_noteFit 22 = .ok (.getfield 440, 3) := by decide +kernel
theorem dX12_noteFit_25 : decode cX12_noteFit 25 = .ok (.iconst 1, 1) := by decide +kernel
theorem dX12_noteFit_26 : decode cX12_noteFit 26 = .ok (.iadd, 1) := by decide +kernel
theorem dX12_noteFit_27 : decode cX12_noteFit 27 = .ok (.putfield 440, 3) := by decide +kernel
theorem dX12_noteFit_30 : decode cX12_noteFit 30 = .ok (.aload_n 0, 1) := by decide +kernel
theorem dX12_noteFit_31 : decode cX12_noteFit 31 = .ok (.dup, 1) := by decide +kernel
theorem dX12_noteFit_32 : decode cX12_noteFit 32 = .ok (.getfield 446, 3) := by decide +kernel
theorem dX12_noteFit_35 : decode cX12_noteFit 35 = .ok (.iconst 1, 1) := by decide +kernel
theorem dX12_noteFit_36 : decode cX12_noteFit 36 = .ok (.iload_n 1, 1) := by decide +kernel
theorem dX12_noteFit_37 : decode cX12_noteFit 37 = .ok (.invokestatic 358, 3) := by decide +kernel
theorem dX12_noteFit_40 : decode cX12_noteFit 40 = .ok (.sipush 19683, 3) := by decide +kernel
theorem dX12_noteFit_43 : decode cX12_noteFit 43 = .ok (.idiv, 1) := by decide +kernel
theorem dX12_noteFit_44 : decode cX12_noteFit 44 = .ok (.ishl, 1) := by decide +kernel
theorem dX12_noteFit_45 : decode cX12_noteFit 45 = .ok (.ior, 1) := by decide +kernel
theorem dX12_noteFit_46 : decode cX12_noteFit 46 = .ok (.putfield 446, 3) := by decide +kernel
theorem dX12_noteFit_49 : decode cX12_noteFit 49 = .ok (.iconst 0, 1) := by decide +kernel
theorem dX12_noteFit_50 : decode cX12_noteFit 50 = .ok (.istore_n 3, 1) := by decide +kernel
theorem dX12_noteFit_51 : decode cX12_noteFit 51 = .ok (.iload_n 3, 1) := by decide +kernel
theorem dX12_noteFit_52 : decode cX12_noteFit 52 = .ok (.bipush 40, 2) := by decide +kernel
theorem dX12_noteFit_54 : decode cX12_noteFit 54 = .ok (.if_icmp .ge 58, 3) := by decide +kernel
theorem dX12_noteFit_57 : decode cX12_noteFit 57 = .ok (.iload_n 3, 1) := by decide +kernel
theorem dX12_noteFit_58 : decode cX12_noteFit 58 = .ok (.bipush 10, 2) := by decide +kernel
theorem dX12_noteFit_60 : decode cX12_noteFit 60 = .ok (.idiv, 1) := by decide +kernel
theorem dX12_noteFit_61 : decode cX12_noteFit 61 = .ok (.istore 4, 2) := by decide +kernel
theorem dX12_noteFit_63 : decode cX12_noteFit 63 = .ok (.iload_n 3, 1) := by decide +kernel
theorem dX12_noteFit_64 : decode cX12_noteFit 64 = .ok (.bipush 10, 2) := by decide +kernel
theorem dX12_noteFit_66 : decode cX12_noteFit 66 = .ok (.irem, 1) := by decide +kernel
theorem dX12_noteFit_67 : decode cX12_noteFit 67 = .ok (.istore 5, 2) := by decide +kernel
theorem dX12_noteFit_69 : decode cX12_noteFit 69 = .ok (.aload_n 0, 1) := by decide +kernel
theorem dX12_noteFit_70 : decode cX12_noteFit 70 = .ok (.getfield 53, 3) := by decide +kernel
theorem dX12_noteFit_73 : decode cX12_noteFit 73 = .ok (.iload_n 3, 1) := by decide +kernel
theorem dX12_noteFit_74 : decode cX12_noteFit 74 = .ok (.dup2, 1) := by decide +kernel
theorem dX12_noteFit_75 : decode cX12_noteFit 75 = .ok (.iaload, 1) := by decide +kernel
theorem dX12_noteFit_76 : decode cX12_noteFit 76 = .ok (.aload_n 0, 1) := by decide +kernel
theorem dX12_noteFit_77 : decode cX12_noteFit 77 = .ok (.iload 4, 2) := by decide +kernel
theorem dX12_noteFit_79 : decode cX12_noteFit 79 = .ok (.iload 5, 2) := by decide +kernel
theorem dX12_noteFit_81 : decode cX12_noteFit 81 = .ok (.invokevirtual 284, 3) := by decide +kernel
theorem dX12_noteFit_84 : decode cX12_noteFit 84 = .ok (.ifCond .eq 19, 3) := by decide +kernel
theorem dX12_noteFit_87 : decode cX12_noteFit 87 = .ok (.aload_n 0, 1) := by decide +kernel
theorem dX12_noteFit_88 : decode cX12_noteFit 88 = .ok (.iload 4, 2) := by decide +kernel
theorem dX12_noteFit_90 : decode cX12_noteFit 90 = .ok (.iload 5, 2) := by decide +kernel
theorem dX12_noteFit_92 : decode cX12_noteFit 92 = .ok (.iload_n 1, 1) := by decide +kernel
theorem dX12_noteFit_93 : decode cX12_noteFit 93 = .ok (.invokevirtual 362, 3) := by decide +kernel
theorem dX12_noteFit_96 : decode cX12_noteFit 96 = .ok (.ifCond .le 7, 3) := by decide +kernel
theorem dX12_noteFit_99 : decode cX12_noteFit 99 = .ok (.iconst 1, 1) := by decide +kernel
theorem dX12_noteFit_100 : decode cX12_noteFit 100 = .ok (.goto 4, 3) := by decide +kernel
theorem dX12_noteFit_103 : decode cX12_noteFit 103 = .ok (.iconst 0, 1) := by decide +kernel
theorem dX12_noteFit_104 : decode cX12_noteFit 104 = .ok (.iadd, 1) := by decide +kernel
theorem dX12_noteFit_105 : decode cX12_noteFit 105 = .ok (.iastore, 1) := by decide +kernel
theorem dX12_noteFit_106 : decode cX12_noteFit 106 = .ok (.iinc 3 1, 3) := by decide +kernel
theorem dX12_noteFit_109 : decode cX12_noteFit 109 = .ok (.goto (-58), 3) := by decide +kernel
theorem dX12_noteFit_112 : decode cX12_noteFit 112 = .ok (.return_, 1) := by decide +kernel
theorem dX12_findWords_0 : decode cX12_findWords 0 = .ok (.aload_n 0, 1) := by decide +kernel
theorem dX12_findWords_1 : decode cX12_findWords 1 = .ok (.iconst 0, 1) := by decide +kernel
theorem dX12_findWords_2 : decode cX12_findWords 2 = .ok (.putfield 440, 3) := by decide +kernel
theorem dX12_findWords_5 : decode cX12_findWords 5 = .ok (.aload_n 0, 1) := by decide +kernel
theorem dX12_findWords_6 : decode cX12_findWords 6 = .ok (.bipush (-2), 2) := by decide +kernel
theorem dX12_findWords_8 : decode cX12_findWords 8 = .ok (.putfield 443, 3) := by decide +kernel
theorem dX12_findWords_11 : decode cX12_findWords 11 = .ok (.aload_n 0, 1) := by decide +kernel
theorem dX12_findWords_12 : decode cX12_findWords 12 = .ok (.iconst 0, 1) := by decide +kernel
theorem dX12_findWords_13 : decode cX12_findWords 13 = .ok (.putfield 446, 3) := by decide +kernel
theorem dX12_findWords_16 : decode cX12_findWords 16 = .ok (.iconst 0, 1) := by decide +kernel
theorem dX12_findWords_17 : decode cX12_findWords 17 = .ok (.istore_n 2, 1) := by decide +kernel
theorem dX12_findWords_18 : decode cX12_findWords 18 = .ok (.iload_n 2, 1) := by decide +kernel
theorem dX12_findWords_19 : decode cX12_findWords 19 = .ok (.bipush 40, 2) := by decide +kernel
theorem dX12_findWords_21 : decode cX12_findWords 21 = .ok (.if_icmp .ge 16, 3) := by decide +kernel
theorem dX12_findWords_24 : decode cX12_findWords 24 = .ok (.aload_n 0, 1) := by decide +kernel
theorem dX12_findWords_25 : decode cX12_findWords 25 = .ok (.getfield 53, 3) := by decide +kernel
theorem dX12_findWords_28 : decode cX12_findWords 28 = .ok (.iload_n 2, 1) := by decide +kernel
theorem dX12_findWords_29 : decode cX12_findWords 29 = .ok (.iconst 0, 1) := by decide +kernel
theorem dX12_findWords_30 : decode cX12_findWords 30 = .ok (.iastore, 1) := by decide +kernel
theorem dX12_findWords_31 : decode cX12_findWords 31 = .ok (.iinc 2 1, 3) := by decide +kernel
theorem dX12_findWords_34 : decode cX12_findWords 34 = .ok (.goto (-16), 3) := by decide +kernel
theorem dX12_findWords_37 : decode cX12_findWords 37 = .ok (.aload_n 0, 1) := by decide +kernel
theorem dX12_findWords_38 : decode cX12_findWords 38 = .ok (.invokevirtual 334, 3) := by decide +kernel
theorem dX12_findWords_41 : decode cX12_findWords 41 = .ok (.iconst 0, 1) := by decide +kernel
theorem dX12_findWords_42 : decode cX12_findWords 42 = .ok (.istore_n 2, 1) := by decide +kernel
theorem dX12_findWords_43 : decode cX12_findWords 43 = .ok (.iload_n 2, 1) := by decide +kernel
theorem dX12_findWords_44 : decode cX12_findWords 44 = .ok (.aload_n 0, 1) := by decide +kernel
theorem dX12_findWords_45 : decode cX12_findWords 45 = .ok (.getfield 337, 3) := by decide +kernel
theorem dX12_findWords_48 : decode cX12_findWords 48 = .ok (.if_icmp .ge 33, 3) := by decide +kernel
theorem dX12_findWords_51 : decode cX12_findWords 51 = .ok (.aload_n 0, 1) := by decide +kernel
theorem dX12_findWords_52 : decode cX12_findWords 52 = .ok (.aload_n 0, 1) := by decide +kernel
theorem dX12_findWords_53 : decode cX12_findWords 53 = .ok (.getfield 44, 3) := by decide +kernel
theorem dX12_findWords_56 : decode cX12_findWords 56 = .ok (.iload_n 2, 1) := by decide +kernel
theorem dX12_findWords_57 : decode cX12_findWords 57 = .ok (.iaload, 1) := by decide +kernel
theorem dX12_findWords_58 : decode cX12_findWords 58 = .ok (.invokevirtual 449, 3) := by decide +kernel
theorem dX12_findWords_61 : decode cX12_findWords 61 = .ok (.ifCond .eq 14, 3) := by decide +kernel
theorem dX12_findWords_64 : decode cX12_findWords 64 = .ok (.aload_n 0, 1) := by decide +kernel
theorem dX12_findWords_65 : decode cX12_findWords 65 = .ok (.aload_n 0, 1) := by decide +kernel
theorem dX12_findWords_66 : decode cX12_findWords 66 = .ok (.getfield 44, 3) := by decide +kernel
theorem dX12_findWords_69 : decode cX12_findWords 69 = .ok (.iload_n 2, 1) := by decide +kernel
theorem dX12_findWords_70 : decode cX12_findWords 70 = .ok (.iaload, 1) := by decide +kernel
theorem dX12_findWords_71 : decode cX12_findWords 71 = .ok (.iload_n 1, 1) := by decide +kernel
theorem dX12_findWords_72 : decode cX12_findWords 72 = .ok (.invokevirtual 452, 3) := by decide +kernel
theorem dX12_findWords_75 : decode cX12_findWords 75 = .ok (.iinc 2 1, 3) := by decide +kernel
theorem dX12_findWords_78 : decode cX12_findWords 78 = .ok (.goto (-35), 3) := by decide +kernel
theorem dX12_findWords_81 : decode cX12_findWords 81 = .ok (.return_, 1) := by decide +kernel
theorem dX12_sureLetter_0 : decode cX12_sureLetter 0 = .ok (.iconst 1, 1) := by decide +kernel
theorem dX12_sureLetter_1 : decode cX12_sureLetter 1 = .ok (.istore_n 1, 1) := by decide +kernel
theorem dX12_sureLetter_2 : decode cX12_sureLetter 2 = .ok (.iload_n 1, 1) := by decide +kernel
theorem dX12_sureLetter_3 : decode cX12_sureLetter 3 = .ok (.bipush 27, 2) := by decide +kernel
theorem dX12_sureLetter_5 : decode cX12_sureLetter 5 = .ok (.if_icmp .ge 21, 3) := by decide +kernel
theorem dX12_sureLetter_8 : decode cX12_sureLetter 8 = .ok (.aload_n 0, 1) := by decide +kernel
theorem dX12_sureLetter_9 : decode cX12_sureLetter 9 = .ok (.getfield 446, 3) := by decide +kernel
theorem dX12_sureLetter_12 : decode cX12_sureLetter 12 = .ok (.iconst 1, 1) := by decide +kernel
theorem dX12_sureLetter_13 : decode cX12_sureLetter 13 = .ok (.iload_n 1, 1) := by decide +kernel
theorem dX12_sureLetter_14 : decode cX12_sureLetter 14 = .ok (.ishl, 1) := by decide +kernel
theorem dX12_sureLetter_15 : decode cX12_sureLetter 15 = .ok (.if_icmp .ne 5, 3) := by decide +kernel
theorem dX12_sureLetter_18 : decode cX12_sureLetter 18 = .ok (.iload_n 1, 1) := by decide +kernel
theorem dX12_sureLetter_19 : decode cX12_sureLetter 19 = .ok (.ireturn, 1) := by decide +kernel
theorem dX12_sureLetter_20 : decode cX12_sureLetter 20 = .ok (.iinc 1 1, 3) := by decide +kernel
theorem dX12_sureLetter_23 : decode cX12_sureLetter 23 = .ok (.goto (-21), 3) := by decide +kernel
theorem dX12_sureLetter_26 : decode cX12_sureLetter 26 = .ok (.iconst (-1), 1) := by decide +kernel
theorem dX12_sureLetter_27 : decode cX12_sureLetter 27 = .ok (.ireturn, 1) := by decide +kernel
theorem dX12_askWhere_0 : decode cX12_askWhere 0 = .ok (.iconst (-1), 1) := by decide +kernel
theorem dX12_askWhere_1 : decode cX12_askWhere 1 = .ok (.istore_n 1, 1) := by decide +kernel
theorem dX12_askWhere_2 : decode cX12_askWhere 2 = .ok (.ldc_w 361, 3) := by decide +kernel
theorem dX12_askWhere_5 : decode cX12_askWhere 5 = .ok (.istore_n 2, 1) := by decide +kernel
theorem dX12_askWhere_6 : decode cX12_askWhere 6 = .ok (.iconst 0, 1) := by decide +kernel
theorem dX12_askWhere_7 : decode cX12_askWhere 7 = .ok (.istore_n 3, 1) := by decide +kernel
theorem dX12_askWhere_8 : decode cX12_askWhere 8 = .ok (.iload_n 3, 1) := by decide +kernel
theorem dX12_askWhere_9 : decode cX12_askWhere 9 = .ok (.bipush 40, 2) := by decide +kernel
theorem dX12_askWhere_11 : decode cX12_askWhere 11 = .ok (.if_icmp .ge 64, 3) := by decide +kernel
theorem dX12_askWhere_14 : decode cX12_askWhere 14 = .ok (.aload_n 0, 1) := by decide +kernel
theorem dX12_askWhere_15 : decode cX12_askWhere 15 = .ok (.getfield 440, 3) := by decide +kernel
theorem dX12_askWhere_18 : decode cX12_askWhere 18 = .ok (.ifCond .le 57, 3) := by decide +kernel
theorem dX12_askWhere_21 : decode cX12_askWhere 21 = .ok (.aload_n 0, 1) := by decide +kernel
theorem dX12_askWhere_22 : decode cX12_askWhere 22 = .ok (.getfield 53, 3) := by decide +kernel
theorem dX12_askWhere_25 : decode cX12_askWhere 25 = .ok (.iload_n 3, 1) := by decide +kernel
theorem dX12_askWhere_26 : decode cX12_askWhere 26 = .ok (.iaload, 1) := by decide +kernel
theorem dX12_askWhere_27 : decode cX12_askWhere 27 = .ok (.aload_n 0, 1) := by decide +kernel
theorem dX12_askWhere_28 : decode cX12_askWhere 28 = .ok (.getfield 440, 3) := by decide +kernel
theorem dX12_askWhere_31 : decode cX12_askWhere 31 = .ok (.aload_n 0, 1) := by decide +kernel
theorem dX12_askWhere_32 : decode cX12_askWhere 32 = .ok (.getfield 53, 3) := by decide +kernel
theorem dX12_askWhere_35 : decode cX12_askWhere 35 = .ok (.iload_n 3, 1) := by decide +kernel
theorem dX12_askWhere_36 : decode cX12_askWhere 36 = .ok (.iaload, 1) := by decide +kernel
theorem dX12_askWhere_37 : decode cX12_askWhere 37 = .ok (.isub, 1) := by decide +kernel
theorem dX12_askWhere_38 : decode cX12_askWhere 38 = .ok (.invokestatic 297, 3) := by decide +kernel
theorem dX12_askWhere_41 : decode cX12_askWhere 41 = .ok (.istore 4, 2) := by decide +kernel
theorem dX12_askWhere_43 : decode cX12_askWhere 43 = .ok (.aload_n 0, 1) := by decide +kernel
theorem dX12_askWhere_44 : decode cX12_askWhere 44 = .ok (.iload_n 3, 1) := by decide +kernel
theorem dX12_askWhere_45 : decode cX12_askWhere 45 = .ok (.bipush 10, 2) := by decide +kernel
theorem dX12_askWhere_47 : decode cX12_askWhere 47 = .ok (.idiv, 1) := by decide +kernel
theorem dX12_askWhere_48 : decode cX12_askWhere 48 = .ok (.iload_n 3, 1) := by decide +kernel
theorem dX12_askWhere_49 : decode cX12_askWhere 49 = .ok (.bipush 10, 2) := by decide +kernel
theorem dX12_askWhere_51 : decode cX12_askWhere 51 = .ok (.irem, 1) := by decide +kernel
theorem dX12_askWhere_52 : decode cX12_askWhere 52 = .ok (.invokevirtual 284, 3) := by decide +kernel
theorem dX12_askWhere_55 : decode cX12_askWhere 55 = .ok (.ifCond .eq 14, 3) := by decide +kernel
theorem dX12_askWhere_58 : decode cX12_askWhere 58 = .ok (.iload 4, 2) := by decide +kernel
theorem dX12_askWhere_60 : decode cX12_askWhere 60 = .ok (.iload_n 2, 1) := by decide +kernel
theorem dX12_askWhere_61 : decode cX12_askWhere 61 = .ok (.if_icmp .ge 8, 3) := by decide +kernel
theorem dX12_askWhere_64 : decode cX12_askWhere 64 = .ok (.iload_n 3, 1) := by decide +kernel
theorem dX12_askWhere_65 : decode cX12_askWhere 65 = .ok (.istore_n 1, 1) := by decide +kernel
theorem dX12_askWhere_66 : decode cX12_askWhere 66 = .ok (.iload 4, 2) := by decide +kernel
theorem dX12_askWhere_68 : decode cX12_askWhere 68 = .ok (.istore_n 2, 1) := by decide +kernel
theorem dX12_askWhere_69 : decode cX12_askWhere 69 = .ok (.iinc 3 1, 3) := by decide +kernel
theorem dX12_askWhere_72 : decode cX12_askWhere 72 = .ok (.goto (-64), 3) := by decide +kernel
theorem dX12_askWhere_75 : decode cX12_askWhere 75 = .ok (.iload_n 1, 1) := by decide +kernel
theorem dX12_askWhere_76 : decode cX12_askWhere 76 = .ok (.ireturn, 1) := by decide +kernel
theorem dX12_fits_0 : decode cX12_fits 0 = .ok (.aload_n 0, 1) := by decide +kernel
theorem dX12_fits_1 : decode cX12_fits 1 = .ok (.iconst 0, 1) := by decide +kernel
theorem dX12_fits_2 : decode cX12_fits 2 = .ok (.putfield 60, 3) := by decide +kernel
theorem dX12_fits_5 : decode cX12_fits 5 = .ok (.aload_n 0, 1) := by decide +kernel
theorem dX12_fits_6 : decode cX12_fits 6 = .ok (.iload_n 2, 1) := by decide +kernel
theorem dX12_fits_7 : decode cX12_fits 7 = .ok (.invokevirtual 431, 3) := by decide +kernel
theorem dX12_fits_10 : decode cX12_fits 10 = .ok (.ifCond .eq 11, 3) := by decide +kernel
theorem dX12_fits_13 : decode cX12_fits 13 = .ok (.aload_n 0, 1) := by decide +kernel
theorem dX12_fits_14 : decode cX12_fits 14 = .ok (.iload_n 1, 1) := by decide +kernel
theorem dX12_fits_15 : decode cX12_fits 15 = .ok (.invokevirtual 313, 3) := by decide +kernel
theorem dX12_fits_18 : decode cX12_fits 18 = .ok (.ifCond .ne 6, 3) := by decide +kernel
theorem dX12_fits_21 : decode cX12_fits 21 = .ok (.bipush (-2), 2) := by decide +kernel
theorem dX12_fits_23 : decode cX12_fits 23 = .ok (.ireturn, 1) := by decide +kernel
theorem dX12_fits_24 : decode cX12_fits 24 = .ok (.aload_n 0, 1) := by decide +kernel
theorem dX12_fits_25 : decode cX12_fits 25 = .ok (.iload_n 3, 1) := by decide +kernel
theorem dX12_fits_26 : decode cX12_fits 26 = .ok (.bipush 10, 2) := by decide +kernel
theorem dX12_fits_28 : decode cX12_fits 28 = .ok (.isub, 1) := by decide +kernel
theorem dX12_fits_29 : decode cX12_fits 29 = .ok (.invokevirtual 455, 3) := by decide +kernel
theorem dX12_fits_32 : decode cX12_fits 32 = .ok (.iload_n 3, 1) := by decide +kernel
theorem dX12_fits_33 : decode cX12_fits 33 = .ok (.bipush 10, 2) := by decide +kernel
theorem dX12_fits_35 : decode cX12_fits 35 = .ok (.if_icmp .lt 8, 3) := by decide +kernel
theorem dX12_fits_38 : decode cX12_fits 38 = .ok (.aload_n 0, 1) := by decide +kernel
theorem dX12_fits_39 : decode cX12_fits 39 = .ok (.getfield 443, 3) := by decide +kernel
theorem dX12_fits_42 : decode cX12_fits 42 = .ok (.ireturn, 1) := by decide +kernel
theorem dX12_fits_43 : decode cX12_fits 43 = .ok (.iload_n 3, 1) := by decide +kernel
theorem dX12_fits_44 : decode cX12_fits 44 = .ok (.tableswitch 43 0 2 #[28, 33, 38], 28) := by decide +kernel
theorem dX12_fits_72 : decode cX12_fits 72 = .ok (.aload_n 0, 1) := by decide +kernel
theorem dX12_fits_73 : decode cX12_fits 73 = .ok (.getfield 440, 3) := by decide +kernel
theorem dX12_fits_76 : decode cX12_fits 76 = .ok (.ireturn, 1) := by decide +kernel
theorem dX12_fits_77 : decode cX12_fits 77 = .ok (.aload_n 0, 1) := by decide +kernel
theorem dX12_fits_78 : decode cX12_fits 78 = .ok (.invokevirtual 458, 3) := by decide +kernel
theorem dX12_fits_81 : decode cX12_fits 81 = .ok (.ireturn, 1) := by decide +kernel
theorem dX12_fits_82 : decode cX12_fits 82 = .ok (.aload_n 0, 1) := by decide +kernel
theorem dX12_fits_83 : decode cX12_fits 83 = .ok (.invokevirtual 461, 3) := by decide +kernel
theorem dX12_fits_86 : decode cX12_fits 86 = .ok (.ireturn, 1) := by decide +kernel
theorem dX12_fits_87 : decode cX12_fits 87 = .ok (.bipush (-2), 2) := by decide +kernel
theorem dX12_fits_89 : decode cX12_fits 89 = .ok (.ireturn, 1) := by decide +kernel
theorem dX12_draw_0 : decode cX12_draw 0 = .ok (.aload_n 0, 1) := by decide +kernel
theorem dX12_draw_1 : decode cX12_draw 1 = .ok (.aload_n 0, 1) := by decide +kernel
theorem dX12_draw_2 : decode cX12_draw 2 = .ok (.getfield 464, 3) := by decide +kernel
theorem dX12_draw_5 : decode cX12_draw 5 = .ok (.ldc_w 467, 3) := by decide +kernel
theorem dX12_draw_8 : decode cX12_draw 8 = .ok (.imul, 1) := by decide +kernel
theorem dX12_draw_9 : decode cX12_draw 9 = .ok (.sipush 12345, 3) := by decide +kernel
theorem dX12_draw_12 : decode cX12_draw 12 = .ok (.iadd, 1) := by decide +kernel
theorem dX12_draw_13 : decode cX12_draw 13 = .ok (.putfield 464, 3) := by decide +kernel
theorem dX12_draw_16 : decode cX12_draw 16 = .ok (.aload_n 0, 1) := by decide +kernel
theorem dX12_draw_17 : decode cX12_draw 17 = .ok (.getfield 464, 3) := by decide +kernel
theorem dX12_draw_20 : decode cX12_draw 20 = .ok (.bipush 16, 2) := by decide +kernel
theorem dX12_draw_22 : decode cX12_draw 22 = .ok (.iushr, 1) := by decide +kernel
theorem dX12_draw_23 : decode cX12_draw 23 = .ok (.iload_n 1, 1) := by decide +kernel
theorem dX12_draw_24 : decode cX12_draw 24 = .ok (.irem, 1) := by decide +kernel
theorem dX12_draw_25 : decode cX12_draw 25 = .ok (.ireturn, 1) := by decide +kernel
theorem dX12_firstToken_0 : decode cX12_firstToken 0 = .ok (.iconst 0, 1) := by decide +kernel
theorem dX12_firstToken_1 : decode cX12_firstToken 1 = .ok (.istore_n 2, 1) := by decide +kernel
theorem dX12_firstToken_2 : decode cX12_firstToken 2 = .ok (.iload_n 2, 1) := by decide +kernel
theorem dX12_firstToken_3 : decode cX12_firstToken 3 = .ok (.aload_n 0, 1) := by decide +kernel
theorem dX12_firstToken_4 : decode cX12_firstToken 4 = .ok (.getfield 35, 3) := by decide +kernel
theorem dX12_firstToken_7 : decode cX12_firstToken 7 = .ok (.iconst 5, 1) := by decide +kernel
theorem dX12_firstToken_8 : decode cX12_firstToken 8 = .ok (.iaload, 1) := by decide +kernel
theorem dX12_firstToken_9 : decode cX12_firstToken 9 = .ok (.if_icmp .ge 25, 3) := by decide +kernel
theorem dX12_firstToken_12 : decode cX12_firstToken 12 = .ok (.aload_n 0, 1) := by decide +kernel
theorem dX12_firstToken_13 : decode cX12_firstToken 13 = .ok (.getfield 35, 3) := by decide +kernel
theorem dX12_firstToken_16 : decode cX12_firstToken 16 = .ok (.sipush 1206, 3) := by decide +kernel
theorem dX12_firstToken_19 : decode cX12_firstToken 19 = .ok (.iload_n 2, 1) := by decide +kernel
theorem dX12_firstToken_20 : decode cX12_firstToken 20 = .ok (.iadd, 1) := by decide +kernel
theorem dX12_firstToken_21 : decode cX12_firstToken 21 = .ok (.iaload, 1) := by decide +kernel
theorem dX12_firstToken_22 : decode cX12_firstToken 22 = .ok (.iload_n 1, 1) := by decide +kernel
theorem dX12_firstToken_23 : decode cX12_firstToken 23 = .ok (.if_icmp .ne 5, 3) := by decide +kernel
theorem dX12_firstToken_26 : decode cX12_firstToken 26 = .ok (.iload_n 2, 1) := by decide +kernel
theorem dX12_firstToken_27 : decode cX12_firstToken 27 = .ok (.ireturn, 1) := by decide +kernel
theorem dX12_firstToken_28 : decode cX12_firstToken 28 = .ok (.iinc 2 1, 3) := by decide +kernel
theorem dX12_firstToken_31 : decode cX12_firstToken 31 = .ok (.goto (-29), 3) := by decide +kernel
theorem dX12_firstToken_34 : decode cX12_firstToken 34 = .ok (.iconst (-1), 1) := by decide +kernel
theorem dX12_firstToken_35 : decode cX12_firstToken 35 = .ok (.ireturn, 1) := by decide +kernel
theorem dX12_makes_0 : decode cX12_makes 0 = .ok (.aload_n 0, 1) := by decide +kernel
theorem dX12_makes_1 : decode cX12_makes 1 = .ok (.aload_n 0, 1) := by decide +kernel
theorem dX12_makes_2 : decode cX12_makes 2 = .ok (.getfield 38, 3) := by decide +kernel
theorem dX12_makes_5 : decode cX12_makes 5 = .ok (.iconst 0, 1) := by decide +kernel
theorem dX12_makes_6 : decode cX12_makes 6 = .ok (.iaload, 1) := by decide +kernel
theorem dX12_makes_7 : decode cX12_makes 7 = .ok (.invokevirtual 259, 3) := by decide +kernel
theorem dX12_makes_10 : decode cX12_makes 10 = .ok (.bipush 10, 2) := by decide +kernel
theorem dX12_makes_12 : decode cX12_makes 12 = .ok (.if_icmp .ge 47, 3) := by decide +kernel
theorem dX12_makes_15 : decode cX12_makes 15 = .ok (.aload_n 0, 1) := by decide +kernel
theorem dX12_makes_16 : decode cX12_makes 16 = .ok (.iload_n 1, 1) := by decide +kernel
theorem dX12_makes_17 : decode cX12_makes 17 = .ok (.invokevirtual 187, 3) := by decide +kernel
theorem dX12_makes_20 : decode cX12_makes 20 = .ok (.ifCond .eq 39, 3) := by decide +kernel
theorem dX12_makes_23 : decode cX12_makes 23 = .ok (.iload_n 1, 1) := by decide +kernel
theorem dX12_makes_24 : decode cX12_makes 24 = .ok (.ifCond .ne 30, 3) := by decide +kernel
theorem dX12_makes_27 : decode cX12_makes 27 = .ok (.aload_n 0, 1) := by decide +kernel
theorem dX12_makes_28 : decode cX12_makes 28 = .ok (.aload_n 0, 1) := by decide +kernel
theorem dX12_makes_29 : decode cX12_makes 29 = .ok (.getfield 38, 3) := by decide +kernel
theorem dX12_makes_32 : decode cX12_makes 32 = .ok (.iconst 0, 1) := by decide +kernel
theorem dX12_makes_33 : decode cX12_makes 33 = .ok (.iaload, 1) := by decide +kernel
theorem dX12_makes_34 : decode cX12_makes 34 = .ok (.aload_n 0, 1) := by decide +kernel
theorem dX12_makes_35 : decode cX12_makes 35 = .ok (.aload_n 0, 1) := by decide +kernel
theorem dX12_makes_36 : decode cX12_makes 36 = .ok (.getfield 38, 3) := by decide +kernel
theorem dX12_makes_39 : decode cX12_makes 39 = .ok (.iconst 0, 1) := by decide +kernel
theorem dX12_makes_40 : decode cX12_makes 40 = .ok (.iaload, 1) := by decide +kernel
theorem dX12_makes_41 : decode cX12_makes 41 = .ok (.invokevirtual 259, 3) := by decide +kernel
theorem dX12_makes_44 : decode cX12_makes 44 = .ok (.iconst 1, 1) := by decide +kernel
theorem dX12_makes_45 : decode cX12_makes 45 = .ok (.isub, 1) := by decide +kernel
theorem dX12_makes_46 : decode cX12_makes 46 = .ok (.invokevirtual 269, 3) := by decide +kernel
theorem dX12_makes_49 : decode cX12_makes 49 = .ok (.bipush 20, 2) := by decide +kernel
theorem dX12_makes_51 : decode cX12_makes 51 = .ok (.if_icmp .ge 8, 3) := by decide +kernel
theorem dX12_makes_54 : decode cX12_makes 54 = .ok (.aload_n 0, 1) := by decide +kernel
theorem dX12_makes_55 : decode cX12_makes 55 = .ok (.iload_n 1, 1) := by decide +kernel
theorem dX12_makes_56 : decode cX12_makes 56 = .ok (.invokevirtual 190, 3) := by decide +kernel
theorem dX12_makes_59 : decode cX12_makes 59 = .ok (.return_, 1) := by decide +kernel
theorem dX12_drawChange_0 : decode cX12_drawChange 0 = .ok (.aload_n 0, 1) := by decide +kernel
theorem dX12_drawChange_1 : decode cX12_drawChange 1 = .ok (.aload_n 0, 1) := by decide +kernel
theorem dX12_drawChange_2 : decode cX12_drawChange 2 = .ok (.getfield 35, 3) := by decide +kernel
theorem dX12_drawChange_5 : decode cX12_drawChange 5 = .ok (.iconst 0, 1) := by decide +kernel
theorem dX12_drawChange_6 : decode cX12_drawChange 6 = .ok (.iaload, 1) := by decide +kernel
theorem dX12_drawChange_7 : decode cX12_drawChange 7 = .ok (.invokevirtual 468, 3) := by decide +kernel
theorem dX12_drawChange_10 : decode cX12_drawChange 10 = .ok (.istore_n 1, 1) := by decide +kernel
theorem dX12_drawChange_11 : decode cX12_drawChange 11 = .ok (.aload_n 0, 1) := by decide +kernel
theorem dX12_drawChange_12 : decode cX12_drawChange 12 = .ok (.bipush 6, 2) := by decide +kernel
theorem dX12_drawChange_14 : decode cX12_drawChange 14 = .ok (.invokevirtual 468, 3) := by decide +kernel
theorem dX12_drawChange_17 : decode cX12_drawChange 17 = .ok (.istore_n 2, 1) := by decide +kernel
theorem dX12_drawChange_18 : decode cX12_drawChange 18 = .ok (.aload_n 0, 1) := by decide +kernel
theorem dX12_drawChange_19 : decode cX12_drawChange 19 = .ok (.iload_n 1, 1) := by decide +kernel
theorem dX12_drawChange_20 : decode cX12_drawChange 20 = .ok (.aload_n 0, 1) := by decide +kernel
theorem dX12_drawChange_21 : decode cX12_drawChange 21 = .ok (.iload_n 1, 1) := by decide +kernel
theorem dX12_drawChange_22 : decode cX12_drawChange 22 = .ok (.invokevirtual 259, 3) := by decide +kernel
theorem dX12_drawChange_25 : decode cX12_drawChange 25 = .ok (.iconst 1, 1) := by decide +kernel
theorem dX12_drawChange_26 : decode cX12_drawChange 26 = .ok (.isub, 1) := by decide +kernel
theorem dX12_drawChange_27 : decode cX12_drawChange 27 = .ok (.invokevirtual 269, 3) := by decide +kernel
theorem dX12_drawChange_30 : decode cX12_drawChange 30 = .ok (.istore_n 3, 1) := by decide +kernel
theorem dX12_drawChange_31 : decode cX12_drawChange 31 = .ok (.aload_n 0, 1) := by decide +kernel
theorem dX12_drawChange_32 : decode cX12_drawChange 32 = .ok (.iload_n 1, 1) := by decide +kernel
theorem dX12_drawChange_33 : decode cX12_drawChange 33 = .ok (.invokevirtual 471, 3) := by decide +kernel
theorem dX12_drawChange_36 : decode cX12_drawChange 36 = .ok (.istore 4, 2) := by decide +kernel
theorem dX12_drawChange_38 : decode cX12_drawChange 38 = .ok (.aload_n 0, 1) := by decide +kernel
theorem dX12_drawChange_39 : decode cX12_drawChange 39 = .ok (.getfield 38, 3) := by decide +kernel
theorem dX12_drawChange_42 : decode cX12_drawChange 42 = .ok (.iconst 0, 1) := by decide +kernel
theorem dX12_drawChange_43 : decode cX12_drawChange 43 = .ok (.iload_n 1, 1) := by decide +kernel
theorem dX12_drawChange_44 : decode cX12_drawChange 44 = .ok (.iastore, 1) := by decide +kernel
theorem dX12_drawChange_45 : decode cX12_drawChange 45 = .ok (.aload_n 0, 1) := by decide +kernel
theorem dX12_drawChange_46 : decode cX12_drawChange 46 = .ok (.iconst 0, 1) := by decide +kernel
theorem dX12_drawChange_47 : decode cX12_drawChange 47 = .ok (.putfield 129, 3) := by decide +kernel
theorem dX12_drawChange_50 : decode cX12_drawChange 50 = .ok (.iload_n 2, 1) := by decide +kernel
theorem dX12_drawChange_51 : decode cX12_drawChange 51 = .ok (.iconst 5, 1) := by decide +kernel
theorem dX12_drawChange_52 : decode cX12_drawChange 52 = .ok (.if_icmp .ne 24, 3) := by decide +kernel
theorem dX12_drawChange_55 : decode cX12_drawChange 55 = .ok (.aload_n 0, 1) := by decide +kernel
theorem dX12_drawChange_56 : decode cX12_drawChange 56 = .ok (.getfield 38, 3) := by decide +kernel
theorem dX12_drawChange_59 : decode cX12_drawChange 59 = .ok (.iconst 1, 1) := by decide +kernel
theorem dX12_drawChange_60 : decode cX12_drawChange 60 = .ok (.aload_n 0, 1) := by decide +kernel
theorem dX12_drawChange_61 : decode cX12_drawChange 61 = .ok (.aload_n 0, 1) := by decide +kernel
theorem dX12_drawChange_62 : decode cX12_drawChange 62 = .ok (.iload_n 1, 1) := by decide +kernel
theorem dX12_drawChange_63 : decode cX12_drawChange 63 = .ok (.invokevirtual 259, 3) := by decide +kernel
theorem dX12_drawChange_66 : decode cX12_drawChange 66 = .ok (.invokevirtual 468, 3) := by decide +kernel
theorem dX12_drawChange_69 : decode cX12_drawChange 69 = .ok (.iastore, 1) := by decide +kernel
theorem dX12_drawChange_70 : decode cX12_drawChange 70 = .ok (.aload_n 0, 1) := by decide +kernel
theorem dX12_drawChange_71 : decode cX12_drawChange 71 = .ok (.iconst 3, 1) := by decide +kernel
theorem dX12_drawChange_72 : decode cX12_drawChange 72 = .ok (.invokevirtual 474, 3) := by decide +kernel
theorem dX12_drawChange_75 : decode cX12_drawChange 75 = .ok (.return_, 1) := by decide +kernel
theorem dX12_drawChange_76 : decode cX12_drawChange 76 = .ok (.iload_n 2, 1) := by decide +kernel
theorem dX12_drawChange_77 : decode cX12_drawChange 77 = .ok (.iconst 2, 1) := by decide +kernel
theorem dX12_drawChange_78 : decode cX12_drawChange 78 = .ok (.if_icmp .eq 8, 3) := by decide +kernel
theorem dX12_drawChange_81 : decode cX12_drawChange 81 = .ok (.iload_n 2, 1) := by decide +kernel
theorem dX12_drawChange_82 : decode cX12_drawChange 82 = .ok (.iconst 3, 1) := by decide +kernel
theorem dX12_drawChange_83 : decode cX12_drawChange 83 = .ok (.if_icmp .ne 12, 3) := by decide +kernel
theorem dX12_drawChange_86 : decode cX12_drawChange 86 = .ok (.iload 4, 2) := by decide +kernel
theorem dX12_drawChange_88 : decode cX12_drawChange 88 = .ok (.iconst (-1), 1) := by decide +kernel
theorem dX12_drawChange_89 : decode cX12_drawChange 89 = .ok (.if_icmp .ne 11, 3) := by decide +kernel
theorem dX12_drawChange_92 : decode cX12_drawChange 92 = .ok (.goto 7, 3) := by decide +kernel
theorem dX12_drawChange_95 : decode cX12_drawChange 95 = .ok (.iload_n 3, 1) := by decide +kernel
theorem dX12_drawChange_96 : decode cX12_drawChange 96 = .ok (.ifCond .ne 4, 3) := by decide +kernel
theorem dX12_drawChange_99 : decode cX12_drawChange 99 = .ok (.return_, 1) := by decide +kernel
theorem dX12_drawChange_100 : decode cX12_drawChange 100 = .ok (.aload_n 0, 1) := by decide +kernel
theorem dX12_drawChange_101 : decode cX12_drawChange 101 = .ok (.getfield 38, 3) := by decide +kernel
theorem dX12_drawChange_104 : decode cX12_drawChange 104 = .ok (.iconst 1, 1) := by decide +kernel
theorem dX12_drawChange_105 : decode cX12_drawChange 105 = .ok (.aload_n 0, 1) := by decide +kernel
theorem dX12_drawChange_106 : decode cX12_drawChange 106 = .ok (.iload_n 2, 1) := by decide +kernel
theorem dX12_drawChange_107 : decode cX12_drawChange 107 = .ok (.iconst 2, 1) := by decide +kernel
theorem dX12_drawChange_108 : decode cX12_drawChange 108 = .ok (.if_icmp .eq 8, 3) := by decide +kernel
theorem dX12_drawChange_111 : decode cX12_drawChange 111 = .ok (.iload_n 2, 1) := by decide +kernel
theorem dX12_drawChange_112 : decode cX12_drawChange 112 = .ok (.iconst 3, 1) := by decide +kernel
theorem dX12_drawChange_113 : decode cX12_drawChange 113 = .ok (.if_icmp .ne 9, 3) := by decide +kernel
theorem dX12_drawChange_116 : decode cX12_drawChange 116 = .ok (.iload_n 3, 1) := by decide +kernel
theorem dX12_drawChange_117 : decode cX12_drawChange 117 = .ok (.iconst 1, 1) := by decide +kernel
theorem dX12_drawChange_118 : decode cX12_drawChange 118 = .ok (.iadd, 1) := by decide +kernel
theorem dX12_drawChange_119 : decode cX12_drawChange 119 = .ok (.goto 4, 3) := by decide +kernel
theorem dX12_drawChange_122 : decode cX12_drawChange 122 = .ok (.iload_n 3, 1) := by decide +kernel
theorem dX12_drawChange_123 : decode cX12_drawChange 123 = .ok (.invokevirtual 468, 3) := by decide +kernel
theorem dX12_drawChange_126 : decode cX12_drawChange 126 = .ok (.iastore, 1) := by decide +kernel
theorem dX12_drawChange_127 : decode cX12_drawChange 127 = .ok (.aload_n 0, 1) := by decide +kernel
theorem dX12_drawChange_128 : decode cX12_drawChange 128 = .ok (.getfield 38, 3) := by decide +kernel
theorem dX12_drawChange_131 : decode cX12_drawChange 131 = .ok (.iconst 2, 1) := by decide +kernel
theorem dX12_drawChange_132 : decode cX12_drawChange 132 = .ok (.iload_n 2, 1) := by decide +kernel
theorem dX12_drawChange_133 : decode cX12_drawChange 133 = .ok (.iconst 2, 1) := by decide +kernel
theorem dX12_drawChange_134 : decode cX12_drawChange 134 = .ok (.if_icmp .ge 7, 3) := by decide +kernel
theorem dX12_drawChange_137 : decode cX12_drawChange 137 = .ok (.iconst 1, 1) := by decide +kernel
theorem dX12_drawChange_138 : decode cX12_drawChange 138 = .ok (.goto 17, 3) := by decide +kernel
theorem dX12_drawChange_141 : decode cX12_drawChange 141 = .ok (.iload_n 2, 1) := by decide +kernel
theorem dX12_drawChange_142 : decode cX12_drawChange 142 = .ok (.iconst 4, 1) := by decide +kernel
theorem dX12_drawChange_143 : decode cX12_drawChange 143 = .ok (.if_icmp .ne 11, 3) := by decide +kernel
theorem dX12_drawChange_146 : decode cX12_drawChange 146 = .ok (.aload_n 0, 1) := by decide +kernel
theorem dX12_drawChange_147 : decode cX12_drawChange 147 = .ok (.iload_n 3, 1) := by decide +kernel
theorem dX12_drawChange_148 : decode cX12_drawChange 148 = .ok (.invokevirtual 468, 3) := by decide +kernel
theorem dX12_drawChange_151 : decode cX12_drawChange 151 = .ok (.goto 4, 3) := by decide +kernel
theorem dX12_drawChange_154 : decode cX12_drawChange 154 = .ok (.iconst (-1), 1) := by decide +kernel
theorem dX12_drawChange_155 : decode cX12_drawChange 155 = .ok (.iastore, 1) := by decide +kernel
theorem dX12_drawChange_156 : decode cX12_drawChange 156 = .ok (.aload_n 0, 1) := by decide +kernel
theorem dX12_drawChange_157 : decode cX12_drawChange 157 = .ok (.iload_n 2, 1) := by decide +kernel
theorem dX12_drawChange_158 : decode cX12_drawChange 158 = .ok (.iconst 2, 1) := by decide +kernel
theorem dX12_drawChange_159 : decode cX12_drawChange 159 = .ok (.if_icmp .eq 8, 3) := by decide +kernel
theorem dX12_drawChange_162 : decode cX12_drawChange 162 = .ok (.iload_n 2, 1) := by decide +kernel
theorem dX12_drawChange_163 : decode cX12_drawChange 163 = .ok (.iconst 3, 1) := by decide +kernel
theorem dX12_drawChange_164 : decode cX12_drawChange 164 = .ok (.if_icmp .ne 7, 3) := by decide +kernel
theorem dX12_drawChange_167 : decode cX12_drawChange 167 = .ok (.iconst 1, 1) := by decide +kernel
theorem dX12_drawChange_168 : decode cX12_drawChange 168 = .ok (.goto 4, 3) := by decide +kernel
theorem dX12_drawChange_171 : decode cX12_drawChange 171 = .ok (.iconst 0, 1) := by decide +kernel
theorem dX12_drawChange_172 : decode cX12_drawChange 172 = .ok (.putfield 129, 3) := by decide +kernel
theorem dX12_drawChange_175 : decode cX12_drawChange 175 = .ok (.aload_n 0, 1) := by decide +kernel
theorem dX12_drawChange_176 : decode cX12_drawChange 176 = .ok (.getfield 41, 3) := by decide +kernel
theorem dX12_drawChange_179 : decode cX12_drawChange 179 = .ok (.iconst 0, 1) := by decide +kernel
theorem dX12_drawChange_180 : decode cX12_drawChange 180 = .ok (.aload_n 0, 1) := by decide +kernel
theorem dX12_drawChange_181 : decode cX12_drawChange 181 = .ok (.getfield 129, 3) := by decide +kernel
theorem dX12_drawChange_184 : decode cX12_drawChange 184 = .ok (.iconst 1, 1) := by decide +kernel
theorem dX12_drawChange_185 : decode cX12_drawChange 185 = .ok (.if_icmp .ne 12, 3) := by decide +kernel
theorem dX12_drawChange_188 : decode cX12_drawChange 188 = .ok (.aload_n 0, 1) := by decide +kernel
theorem dX12_drawChange_189 : decode cX12_drawChange 189 = .ok (.iload 4, 2) := by decide +kernel
theorem dX12_drawChange_191 : decode cX12_drawChange 191 = .ok (.invokevirtual 266, 3) := by decide +kernel
theorem dX12_drawChange_194 : decode cX12_drawChange 194 = .ok (.goto 4, 3) := by decide +kernel
theorem dX12_drawChange_197 : decode cX12_drawChange 197 = .ok (.iconst 0, 1) := by decide +kernel
theorem dX12_drawChange_198 : decode cX12_drawChange 198 = .ok (.iastore, 1) := by decide +kernel
theorem dX12_drawChange_199 : decode cX12_drawChange 199 = .ok (.aload_n 0, 1) := by decide +kernel
theorem dX12_drawChange_200 : decode cX12_drawChange 200 = .ok (.iload_n 2, 1) := by decide +kernel
theorem dX12_drawChange_201 : decode cX12_drawChange 201 = .ok (.iconst 2, 1) := by decide +kernel
theorem dX12_drawChange_202 : decode cX12_drawChange 202 = .ok (.if_icmp .ge 7, 3) := by decide +kernel
theorem dX12_drawChange_205 : decode cX12_drawChange 205 = .ok (.iconst 1, 1) := by decide +kernel
theorem dX12_drawChange_206 : decode cX12_drawChange 206 = .ok (.goto 13, 3) := by decide +kernel
theorem dX12_drawChange_209 : decode cX12_drawChange 209 = .ok (.iload_n 2, 1) := by decide +kernel
theorem dX12_drawChange_210 : decode cX12_drawChange 210 = .ok (.iconst 4, 1) := by decide +kernel
theorem dX12_drawChange_211 : decode cX12_drawChange 211 = .ok (.if_icmp .ge 7, 3) := by decide +kernel
theorem dX12_drawChange_214 : decode cX12_drawChange 214 = .ok (.iconst 0, 1) := by decide +kernel
theorem dX12_drawChange_215 : decode cX12_drawChange 215 = .ok (.goto 4, 3) := by decide +kernel
theorem dX12_drawChange_218 : decode cX12_drawChange 218 = .ok (.iconst 2, 1) := by decide +kernel
theorem dX12_drawChange_219 : decode cX12_drawChange 219 = .ok (.invokevirtual 474, 3) := by decide +kernel
theorem dX12_drawChange_222 : decode cX12_drawChange 222 = .ok (.return_, 1) := by decide +kernel
theorem dX12_tokensOf_0 : decode cX12_tokensOf 0 = .ok (.iconst 0, 1) := by decide +kernel
theorem dX12_tokensOf_1 : decode cX12_tokensOf 1 = .ok (.istore_n 2, 1) := by decide +kernel
theorem dX12_tokensOf_2 : decode cX12_tokensOf 2 = .ok (.iconst 0, 1) := by decide +kernel
theorem dX12_tokensOf_3 : decode cX12_tokensOf 3 = .ok (.istore_n 3, 1) := by decide +kernel
theorem dX12_tokensOf_4 : decode cX12_tokensOf 4 = .ok (.iload_n 3, 1) := by decide +kernel
theorem dX12_tokensOf_5 : decode cX12_tokensOf 5 = .ok (.aload_n 0, 1) := by decide +kernel
theorem dX12_tokensOf_6 : decode cX12_tokensOf 6 = .ok (.getfield 35, 3) := by decide +kernel
theorem dX12_tokensOf_9 : decode cX12_tokensOf 9 = .ok (.iconst 5, 1) := by decide +kernel
theorem dX12_tokensOf_10 : decode cX12_tokensOf 10 = .ok (.iaload, 1) := by decide +kernel
theorem dX12_tokensOf_11 : decode cX12_tokensOf 11 = .ok (.if_icmp .ge 31, 3) := by decide +kernel
theorem dX12_tokensOf_14 : decode cX12_tokensOf 14 = .ok (.iload_n 2, 1) := by decide +kernel
theorem dX12_tokensOf_15 : decode cX12_tokensOf 15 = .ok (.aload_n 0, 1) := by decide +kernel
theorem dX12_tokensOf_16 : decode cX12_tokensOf 16 = .ok (.getfield 35, 3) := by decide +kernel
theorem dX12_tokensOf_19 : decode cX12_tokensOf 19 = .ok (.sipush 1206, 3) := by decide +kernel
theorem dX12_tokensOf_22 : decode cX12_tokensOf 22 = .ok (.iload_n 3, 1) := by decide +kernel
theorem dX12_tokensOf_23 : decode cX12_tokensOf 23 = .ok (.iadd, 1) := by decide +kernel
theorem dX12_tokensOf_24 : decode cX12_tokensOf 24 = .ok (.iaload, 1) := by decide +kernel
theorem dX12_tokensOf_25 : decode cX12_tokensOf 25 = .ok (.iload_n 1, 1) := by decide +kernel
theorem dX12_tokensOf_26 : decode cX12_tokensOf 26 = .ok (.if_icmp .ne 7, 3) := by decide +kernel
theorem dX12_tokensOf_29 : decode cX12_tokensOf 29 = .ok (.iconst 1, 1) := by decide +kernel
theorem dX12_tokensOf_30 : decode cX12_tokensOf 30 = .ok (.goto 4, 3) := by decide +kernel
theorem dX12_tokensOf_33 : decode cX12_tokensOf 33 = .ok (.iconst 0, 1) := by decide +kernel
theorem dX12_tokensOf_34 : decode cX12_tokensOf 34 = .ok (.iadd, 1) := by decide +kernel
theorem dX12_tokensOf_35 : decode cX12_tokensOf 35 = .ok (.istore_n 2, 1) := by decide +kernel
theorem dX12_tokensOf_36 : decode cX12_tokensOf 36 = .ok (.iinc 3 1, 3) := by decide +kernel
theorem dX12_tokensOf_39 : decode cX12_tokensOf 39 = .ok (.goto (-35), 3) := by decide +kernel
theorem dX12_tokensOf_42 : decode cX12_tokensOf 42 = .ok (.iload_n 2, 1) := by decide +kernel
theorem dX12_tokensOf_43 : decode cX12_tokensOf 43 = .ok (.ireturn, 1) := by decide +kernel
theorem dX12_drawn_0 : decode cX12_drawn 0 = .ok (.aload_n 0, 1) := by decide +kernel
theorem dX12_drawn_1 : decode cX12_drawn 1 = .ok (.iconst 0, 1) := by decide +kernel
theorem dX12_drawn_2 : decode cX12_drawn 2 = .ok (.putfield 60, 3) := by decide +kernel
theorem dX12_drawn_5 : decode cX12_drawn 5 = .ok (.iload_n 3, 1) := by decide +kernel
theorem dX12_drawn_6 : decode cX12_drawn 6 = .ok (.iconst 0, 1) := by decide +kernel
theorem dX12_drawn_7 : decode cX12_drawn 7 = .ok (.bipush 40, 2) := by decide +kernel
theorem dX12_drawn_9 : decode cX12_drawn 9 = .ok (.invokestatic 72, 3) := by decide +kernel
theorem dX12_drawn_12 : decode cX12_drawn 12 = .ok (.ifCond .eq 20, 3) := by decide +kernel
theorem dX12_drawn_15 : decode cX12_drawn 15 = .ok (.aload_n 0, 1) := by decide +kernel
theorem dX12_drawn_16 : decode cX12_drawn 16 = .ok (.iload_n 1, 1) := by decide +kernel
theorem dX12_drawn_17 : decode cX12_drawn 17 = .ok (.invokevirtual 313, 3) := by decide +kernel
theorem dX12_drawn_20 : decode cX12_drawn 20 = .ok (.ifCond .eq 12, 3) := by decide +kernel
theorem dX12_drawn_23 : decode cX12_drawn 23 = .ok (.aload_n 0, 1) := by decide +kernel
theorem dX12_drawn_24 : decode cX12_drawn 24 = .ok (.iload 4, 2) := by decide +kernel
theorem dX12_drawn_26 : decode cX12_drawn 26 = .ok (.invokevirtual 256, 3) := by decide +kernel
theorem dX12_drawn_29 : decode cX12_drawn 29 = .ok (.ifCond .ne 5, 3) := by decide +kernel
theorem dX12_drawn_32 : decode cX12_drawn 32 = .ok (.iconst (-1), 1) := by decide +kernel
theorem dX12_drawn_33 : decode cX12_drawn 33 = .ok (.ireturn, 1) := by decide +kernel
theorem dX12_drawn_34 : decode cX12_drawn 34 = .ok (.aload_n 0, 1) := by decide +kernel
theorem dX12_drawn_35 : decode cX12_drawn 35 = .ok (.iload_n 2, 1) := by decide +kernel
theorem dX12_drawn_36 : decode cX12_drawn 36 = .ok (.putfield 464, 3) := by decide +kernel
theorem dX12_drawn_39 : decode cX12_drawn 39 = .ok (.iconst 0, 1) := by decide +kernel
theorem dX12_drawn_40 : decode cX12_drawn 40 = .ok (.istore 6, 2) := by decide +kernel
theorem dX12_drawn_42 : decode cX12_drawn 42 = .ok (.iload 6, 2) := by decide +kernel
theorem dX12_drawn_44 : decode cX12_drawn 44 = .ok (.iload_n 3, 1) := by decide +kernel
theorem dX12_drawn_45 : decode cX12_drawn 45 = .ok (.if_icmp .ge 13, 3) := by decide +kernel
theorem dX12_drawn_48 : decode cX12_drawn 48 = .ok (.aload_n 0, 1) := by decide +kernel
theorem dX12_drawn_49 : decode cX12_drawn 49 = .ok (.invokevirtual 477, 3) := by decide +kernel
theorem dX12_drawn_52 : decode cX12_drawn 52 = .ok (.iinc 6 1, 3) := by decide +kernel
theorem dX12_drawn_55 : decode cX12_drawn 55 = .ok (.goto (-13), 3) := by decide +kernel
theorem dX12_drawn_58 : decode cX12_drawn 58 = .ok (.aload_n 0, 1) := by decide +kernel
theorem dX12_drawn_59 : decode cX12_drawn 59 = .ok (.iload 4, 2) := by decide +kernel
theorem dX12_drawn_61 : decode cX12_drawn 61 = .ok (.invokevirtual 259, 3) := by decide +kernel
theorem dX12_drawn_64 : decode cX12_drawn 64 = .ok (.iconst 1, 1) := by decide +kernel
theorem dX12_drawn_65 : decode cX12_drawn 65 = .ok (.isub, 1) := by decide +kernel
theorem dX12_drawn_66 : decode cX12_drawn 66 = .ok (.istore 6, 2) := by decide +kernel
theorem dX12_drawn_68 : decode cX12_drawn 68 = .ok (.iload 5, 2) := by decide +kernel
theorem dX12_drawn_70 : decode cX12_drawn 70 = .ok (.bipush 10, 2) := by decide +kernel
theorem dX12_drawn_72 : decode cX12_drawn 72 = .ok (.if_icmp .lt 37, 3) := by decide +kernel
theorem dX12_drawn_75 : decode cX12_drawn 75 = .ok (.iload 5, 2) := by decide +kernel
theorem dX12_drawn_77 : decode cX12_drawn 77 = .ok (.bipush 10, 2) := by decide +kernel
theorem dX12_drawn_79 : decode cX12_drawn 79 = .ok (.isub, 1) := by decide +kernel
theorem dX12_drawn_80 : decode cX12_drawn 80 = .ok (.aload_n 0, 1) := by decide +kernel
theorem dX12_drawn_81 : decode cX12_drawn 81 = .ok (.iload 4, 2) := by decide +kernel
theorem dX12_drawn_83 : decode cX12_drawn 83 = .ok (.iload 6, 2) := by decide +kernel
theorem dX12_drawn_85 : decode cX12_drawn 85 = .ok (.invokevirtual 269, 3) := by decide +kernel
theorem dX12_drawn_88 : decode cX12_drawn 88 = .ok (.if_icmp .ge 19, 3) := by decide +kernel
theorem dX12_drawn_91 : decode cX12_drawn 91 = .ok (.aload_n 0, 1) := by decide +kernel
theorem dX12_drawn_92 : decode cX12_drawn 92 = .ok (.iload 4, 2) := by decide +kernel
theorem dX12_drawn_94 : decode cX12_drawn 94 = .ok (.iload 6, 2) := by decide +kernel
theorem dX12_drawn_96 : decode cX12_drawn 96 = .ok (.iload 5, 2) := by decide +kernel
theorem dX12_drawn_98 : decode cX12_drawn 98 = .ok (.bipush 10, 2) := by decide +kernel
theorem dX12_drawn_100 : decode cX12_drawn 100 = .ok (.isub, 1) := by decide +kernel
theorem dX12_drawn_101 : decode cX12_drawn 101 = .ok (.invokevirtual 275, 3) := by decide +kernel
theorem dX12_drawn_104 : decode cX12_drawn 104 = .ok (.goto 4, 3) := by decide +kernel
theorem dX12_drawn_107 : decode cX12_drawn 107 = .ok (.iconst (-1), 1) := by decide +kernel
theorem dX12_drawn_108 : decode cX12_drawn 108 = .ok (.ireturn, 1) := by decide +kernel
theorem dX12_drawn_109 : decode cX12_drawn 109 = .ok (.iload 5, 2) := by decide +kernel
theorem dX12_drawn_111 : decode cX12_drawn 111 = .ok (.ifCond .ne 10, 3) := by decide +kernel
theorem dX12_drawn_114 : decode cX12_drawn 114 = .ok (.iload 6, 2) := by decide +kernel
theorem dX12_drawn_116 : decode cX12_drawn 116 = .ok (.iconst 1, 1) := by decide +kernel
theorem dX12_drawn_117 : decode cX12_drawn 117 = .ok (.iadd, 1) := by decide +kernel
theorem dX12_drawn_118 : decode cX12_drawn 118 = .ok (.goto 36, 3) := by decide +kernel
theorem dX12_drawn_121 : decode cX12_drawn 121 = .ok (.iload 5, 2) := by decide +kernel
theorem dX12_drawn_123 : decode cX12_drawn 123 = .ok (.iconst 1, 1) := by decide +kernel
theorem dX12_drawn_124 : decode cX12_drawn 124 = .ok (.if_icmp .ne 14, 3) := by decide +kernel
theorem dX12_drawn_127 : decode cX12_drawn 127 = .ok (.aload_n 0, 1) := by decide +kernel
theorem dX12_drawn_128 : decode cX12_drawn 128 = .ok (.iload 4, 2) := by decide +kernel
theorem dX12_drawn_130 : decode cX12_drawn 130 = .ok (.iload 6, 2) := by decide +kernel
theorem dX12_drawn_132 : decode cX12_drawn 132 = .ok (.invokevirtual 269, 3) := by decide +kernel
theorem dX12_drawn_135 : decode cX12_drawn 135 = .ok (.goto 19, 3) := by decide +kernel
theorem dX12_drawn_138 : decode cX12_drawn 138 = .ok (.iload 5, 2) := by decide +kernel
theorem dX12_drawn_140 : decode cX12_drawn 140 = .ok (.iconst 2, 1) := by decide +kernel
theorem dX12_drawn_141 : decode cX12_drawn 141 = .ok (.if_icmp .ne 12, 3) := by decide +kernel
theorem dX12_drawn_144 : decode cX12_drawn 144 = .ok (.aload_n 0, 1) := by decide +kernel
theorem dX12_drawn_145 : decode cX12_drawn 145 = .ok (.iload 4, 2) := by decide +kernel
theorem dX12_drawn_147 : decode cX12_drawn 147 = .ok (.invokevirtual 480, 3) := by decide +kernel
theorem dX12_drawn_150 : decode cX12_drawn 150 = .ok (.goto 4, 3) := by decide +kernel
theorem dX12_drawn_153 : decode cX12_drawn 153 = .ok (.iconst (-1), 1) := by decide +kernel
theorem dX12_drawn_154 : decode cX12_drawn 154 = .ok (.ireturn, 1) := by decide +kernel
theorem dX12_count_0 : decode cX12_count 0 = .ok (.aload_n 0, 1) := by decide +kernel
theorem dX12_count_1 : decode cX12_count 1 = .ok (.iconst 0, 1) := by decide +kernel
theorem dX12_count_2 : decode cX12_count 2 = .ok (.putfield 60, 3) := by decide +kernel
theorem dX12_count_5 : decode cX12_count 5 = .ok (.iload_n 1, 1) := by decide +kernel
theorem dX12_count_6 : decode cX12_count 6 = .ok (.iconst 0, 1) := by decide +kernel
theorem dX12_count_7 : decode cX12_count 7 = .ok (.iconst 2, 1) := by decide +kernel
theorem dX12_count_8 : decode cX12_count 8 = .ok (.invokestatic 72, 3) := by decide +kernel
theorem dX12_count_11 : decode cX12_count 11 = .ok (.ifCond .eq 12, 3) := by decide +kernel
theorem dX12_count_14 : decode cX12_count 14 = .ok (.aload_n 0, 1) := by decide +kernel
theorem dX12_count_15 : decode cX12_count 15 = .ok (.getfield 23, 3) := by decide +kernel
theorem dX12_count_18 : decode cX12_count 18 = .ok (.iload_n 1, 1) := by decide +kernel
theorem dX12_count_19 : decode cX12_count 19 = .ok (.iaload, 1) := by decide +kernel
theorem dX12_count_20 : decode cX12_count 20 = .ok (.goto 5, 3) := by decide +kernel
theorem dX12_count_23 : decode cX12_count 23 = .ok (.bipush (-2), 2) := by decide +kernel
theorem dX12_count_25 : decode cX12_count 25 = .ok (.ireturn, 1) := by decide +kernel
theorem dX12_image_0 : decode cX12_image 0 = .ok (.aload_n 0, 1) := by decide +kernel
theorem dX12_image_1 : decode cX12_image 1 = .ok (.iconst 0, 1) := by decide +kernel
theorem dX12_image_2 : decode cX12_image 2 = .ok (.putfield 60, 3) := by decide +kernel
theorem dX12_image_5 : decode cX12_image 5 = .ok (.iload_n 1, 1) := by decide +kernel
theorem dX12_image_6 : decode cX12_image 6 = .ok (.iconst 0, 1) := by decide +kernel
theorem dX12_image_7 : decode cX12_image 7 = .ok (.iconst 2, 1) := by decide +kernel
theorem dX12_image_8 : decode cX12_image 8 = .ok (.invokestatic 72, 3) := by decide +kernel
theorem dX12_image_11 : decode cX12_image 11 = .ok (.ifCond .ne 5, 3) := by decide +kernel
theorem dX12_image_14 : decode cX12_image 14 = .ok (.iconst 0, 1) := by decide +kernel
theorem dX12_image_15 : decode cX12_image 15 = .ok (.ireturn, 1) := by decide +kernel
theorem dX12_image_16 : decode cX12_image 16 = .ok (.aload_n 0, 1) := by decide +kernel
theorem dX12_image_17 : decode cX12_image 17 = .ok (.iconst 0, 1) := by decide +kernel
theorem dX12_image_18 : decode cX12_image 18 = .ok (.iload_n 1, 1) := by decide +kernel
theorem dX12_image_19 : decode cX12_image 19 = .ok (.iconst 1, 1) := by decide +kernel
theorem dX12_image_20 : decode cX12_image 20 = .ok (.iadd, 1) := by decide +kernel
theorem dX12_image_21 : decode cX12_image 21 = .ok (.invokevirtual 483, 3) := by decide +kernel
theorem dX12_image_24 : decode cX12_image 24 = .ok (.aload_n 0, 1) := by decide +kernel
theorem dX12_image_25 : decode cX12_image 25 = .ok (.getfield 56, 3) := by decide +kernel
theorem dX12_image_28 : decode cX12_image 28 = .ok (.iload_n 1, 1) := by decide +kernel
theorem dX12_image_29 : decode cX12_image 29 = .ok (.iconst 1, 1) := by decide +kernel
theorem dX12_image_30 : decode cX12_image 30 = .ok (.bastore, 1) := by decide +kernel
theorem dX12_image_31 : decode cX12_image 31 = .ok (.iconst 1, 1) := by decide +kernel
theorem dX12_image_32 : decode cX12_image 32 = .ok (.ireturn, 1) := by decide +kernel
theorem dX12_again_0 : decode cX12_again 0 = .ok (.aload_n 0, 1) := by decide +kernel
theorem dX12_again_1 : decode cX12_again 1 = .ok (.iconst 0, 1) := by decide +kernel
theorem dX12_again_2 : decode cX12_again 2 = .ok (.putfield 60, 3) := by decide +kernel
theorem dX12_again_5 : decode cX12_again 5 = .ok (.iload_n 1, 1) := by decide +kernel
theorem dX12_again_6 : decode cX12_again 6 = .ok (.iconst 0, 1) := by decide +kernel
theorem dX12_again_7 : decode cX12_again 7 = .ok (.iconst 2, 1) := by decide +kernel
theorem dX12_again_8 : decode cX12_again 8 = .ok (.invokestatic 72, 3) := by decide +kernel
theorem dX12_again_11 : decode cX12_again 11 = .ok (.ifCond .eq 12, 3) := by decide +kernel
theorem dX12_again_14 : decode cX12_again 14 = .ok (.aload_n 0, 1) := by decide +kernel
theorem dX12_again_15 : decode cX12_again 15 = .ok (.getfield 56, 3) := by decide +kernel
theorem dX12_again_18 : decode cX12_again 18 = .ok (.iload_n 1, 1) := by decide +kernel
theorem dX12_again_19 : decode cX12_again 19 = .ok (.baload, 1) := by decide +kernel
theorem dX12_again_20 : decode cX12_again 20 = .ok (.ifCond .ne 5, 3) := by decide +kernel
theorem dX12_again_23 : decode cX12_again 23 = .ok (.iconst 0, 1) := by decide +kernel
theorem dX12_again_24 : decode cX12_again 24 = .ok (.ireturn, 1) := by decide +kernel
theorem dX12_again_25 : decode cX12_again 25 = .ok (.aload_n 0, 1) := by decide +kernel
theorem dX12_again_26 : decode cX12_again 26 = .ok (.iload_n 1, 1) := by decide +kernel
theorem dX12_again_27 : decode cX12_again 27 = .ok (.iconst 1, 1) := by decide +kernel
theorem dX12_again_28 : decode cX12_again 28 = .ok (.iadd, 1) := by decide +kernel
theorem dX12_again_29 : decode cX12_again 29 = .ok (.iconst 0, 1) := by decide +kernel
theorem dX12_again_30 : decode cX12_again 30 = .ok (.invokevirtual 483, 3) := by decide +kernel
theorem dX12_again_33 : decode cX12_again 33 = .ok (.iconst 1, 1) := by decide +kernel
theorem dX12_again_34 : decode cX12_again 34 = .ok (.ireturn, 1) := by decide +kernel
theorem dJ6_bitCount_0f7a4_0 : decode cJ6_bitCount_0f7a4 0 = .ok (.iload_n 0, 1) := by decide +kernel
theorem dJ6_bitCount_0f7a4_1 : decode cJ6_bitCount_0f7a4 1 = .ok (.iload_n 0, 1) := by decide +kernel
theorem dJ6_bitCount_0f7a4_2 : decode cJ6_bitCount_0f7a4 2 = .ok (.iconst 1, 1) := by decide +kernel
theorem dJ6_bitCount_0f7a4_3 : decode cJ6_bitCount_0f7a4 3 = .ok (.iushr, 1) := by decide +kernel
theorem dJ6_bitCount_0f7a4_4 : decode cJ6_bitCount_0f7a4 4 = .ok (.ldc_w 265, 3) := by decide +kernel
theorem dJ6_bitCount_0f7a4_7 : decode cJ6_bitCount_0f7a4 7 = .ok (.iand, 1) := by decide +kernel
theorem dJ6_bitCount_0f7a4_8 : decode cJ6_bitCount_0f7a4 8 = .ok (.isub, 1) := by decide +kernel
theorem dJ6_bitCount_0f7a4_9 : decode cJ6_bitCount_0f7a4 9 = .ok (.istore_n 0, 1) := by decide +kernel
theorem dJ6_bitCount_0f7a4_10 : decode cJ6_bitCount_0f7a4 10 = .ok (.iload_n 0, 1) := by decide +kernel
theorem dJ6_bitCount_0f7a4_11 : decode cJ6_bitCount_0f7a4 11 = .ok (.ldc_w 266, 3) := by decide +kernel
theorem dJ6_bitCount_0f7a4_14 : decode cJ6_bitCount_0f7a4 14 = .ok (.iand, 1) := by decide +kernel
theorem dJ6_bitCount_0f7a4_15 : decode cJ6_bitCount_0f7a4 15 = .ok (.iload_n 0, 1) := by decide +kernel
theorem dJ6_bitCount_0f7a4_16 : decode cJ6_bitCount_0f7a4 16 = .ok (.iconst 2, 1) := by decide +kernel
theorem dJ6_bitCount_0f7a4_17 : decode cJ6_bitCount_0f7a4 17 = .ok (.iushr, 1) := by decide +kernel
theorem dJ6_bitCount_0f7a4_18 : decode cJ6_bitCount_0f7a4 18 = .ok (.ldc_w 266, 3) := by decide +kernel
theorem dJ6_bitCount_0f7a4_21 : decode cJ6_bitCount_0f7a4 21 = .ok (.iand, 1) := by decide +kernel
theorem dJ6_bitCount_0f7a4_22 : decode cJ6_bitCount_0f7a4 22 = .ok (.iadd, 1) := by decide +kernel
theorem dJ6_bitCount_0f7a4_23 : decode cJ6_bitCount_0f7a4 23 = .ok (.istore_n 0, 1) := by decide +kernel
theorem dJ6_bitCount_0f7a4_24 : decode cJ6_bitCount_0f7a4 24 = .ok (.iload_n 0, 1) := by decide +kernel
theorem dJ6_bitCount_0f7a4_25 : decode cJ6_bitCount_0f7a4 25 = .ok (.iload_n 0, 1) := by decide +kernel
theorem dJ6_bitCount_0f7a4_26 : decode cJ6_bitCount_0f7a4 26 = .ok (.iconst 4, 1) := by decide +kernel
theorem dJ6_bitCount_0f7a4_27 : decode cJ6_bitCount_0f7a4 27 = .ok (.iushr, 1) := by decide +kernel
theorem dJ6_bitCount_0f7a4_28 : decode cJ6_bitCount_0f7a4 28 = .ok (.iadd, 1) := by decide +kernel
theorem dJ6_bitCount_0f7a4_29 : decode cJ6_bitCount_0f7a4 29 = .ok (.ldc_w 267, 3) := by decide +kernel
theorem dJ6_bitCount_0f7a4_32 : decode cJ6_bitCount_0f7a4 32 = .ok (.iand, 1) := by decide +kernel
theorem dJ6_bitCount_0f7a4_33 : decode cJ6_bitCount_0f7a4 33 = .ok (.istore_n 0, 1) := by decide +kernel
theorem dJ6_bitCount_0f7a4_34 : decode cJ6_bitCount_0f7a4 34 = .ok (.iload_n 0, 1) := by decide +kernel
theorem dJ6_bitCount_0f7a4_35 : decode cJ6_bitCount_0f7a4 35 = .ok (.iload_n 0, 1) := by decide +kernel
theorem dJ6_bitCount_0f7a4_36 : decode cJ6_bitCount_0f7a4 36 = .ok (.bipush 8, 2) := by decide +kernel
theorem dJ6_bitCount_0f7a4_38 : decode cJ6_bitCount_0f7a4 38 = .ok (.iushr, 1) := by decide +kernel
theorem dJ6_bitCount_0f7a4_39 : decode cJ6_bitCount_0f7a4 39 = .ok (.iadd, 1) := by decide +kernel
theorem dJ6_bitCount_0f7a4_40 : decode cJ6_bitCount_0f7a4 40 = .ok (.istore_n 0, 1) := by decide +kernel
theorem dJ6_bitCount_0f7a4_41 : decode cJ6_bitCount_0f7a4 41 = .ok (.iload_n 0, 1) := by decide +kernel
theorem dJ6_bitCount_0f7a4_42 : decode cJ6_bitCount_0f7a4 42 = .ok (.iload_n 0, 1) := by decide +kernel
theorem dJ6_bitCount_0f7a4_43 : decode cJ6_bitCount_0f7a4 43 = .ok (.bipush 16, 2) := by decide +kernel
theorem dJ6_bitCount_0f7a4_45 : decode cJ6_bitCount_0f7a4 45 = .ok (.iushr, 1) := by decide +kernel
theorem dJ6_bitCount_0f7a4_46 : decode cJ6_bitCount_0f7a4 46 = .ok (.iadd, 1) := by decide +kernel
theorem dJ6_bitCount_0f7a4_47 : decode cJ6_bitCount_0f7a4 47 = .ok (.istore_n 0, 1) := by decide +kernel
theorem dJ6_bitCount_0f7a4_48 : decode cJ6_bitCount_0f7a4 48 = .ok (.iload_n 0, 1) := by decide +kernel
theorem dJ6_bitCount_0f7a4_49 : decode cJ6_bitCount_0f7a4 49 = .ok (.bipush 63, 2) := by decide +kernel
theorem dJ6_bitCount_0f7a4_51 : decode cJ6_bitCount_0f7a4 51 = .ok (.iand, 1) := by decide +kernel
theorem dJ6_bitCount_0f7a4_52 : decode cJ6_bitCount_0f7a4 52 = .ok (.ireturn, 1) := by decide +kernel
theorem dJ13_bitCount_95d88_0 : decode cJ13_bitCount_95d88 0 = .ok (.lload_n 0, 1) := by decide +kernel
theorem dJ13_bitCount_95d88_1 : decode cJ13_bitCount_95d88 1 = .ok (.lload_n 0, 1) := by decide +kernel
theorem dJ13_bitCount_95d88_2 : decode cJ13_bitCount_95d88 2 = .ok (.iconst 1, 1) := by decide +kernel
theorem dJ13_bitCount_95d88_3 : decode cJ13_bitCount_95d88 3 = .ok (.lushr, 1) := by decide +kernel
theorem dJ13_bitCount_95d88_4 : decode cJ13_bitCount_95d88 4 = .ok (.ldc2_w 314, 3) := by decide +kernel
theorem dJ13_bitCount_95d88_7 : decode cJ13_bitCount_95d88 7 = .ok (.land, 1) := by decide +kernel
theorem dJ13_bitCount_95d88_8 : decode cJ13_bitCount_95d88 8 = .ok (.lsub, 1) := by decide +kernel
theorem dJ13_bitCount_95d88_9 : decode cJ13_bitCount_95d88 9 = .ok (.lstore_n 0, 1) := by decide +kernel
theorem dJ13_bitCount_95d88_10 : decode cJ13_bitCount_95d88 10 = .ok (.lload_n 0, 1) := by decide +kernel
theorem dJ13_bitCount_95d88_11 : decode cJ13_bitCount_95d88 11 = .ok (.ldc2_w 316, 3) := by decide +kernel
theorem dJ13_bitCount_95d88_14 : decode cJ13_bitCount_95d88 14 = .ok (.land, 1) := by decide +kernel
theorem dJ13_bitCount_95d88_15 : decode cJ13_bitCount_95d88 15 = .ok (.lload_n 0, 1) := by decide +kernel
theorem dJ13_bitCount_95d88_16 : decode cJ13_bitCount_95d88 16 = .ok (.iconst 2, 1) := by decide +kernel
theorem dJ13_bitCount_95d88_17 : decode cJ13_bitCount_95d88 17 = .ok (.lushr, 1) := by decide +kernel
theorem dJ13_bitCount_95d88_18 : decode cJ13_bitCount_95d88 18 = .ok (.ldc2_w 316, 3) := by decide +kernel
theorem dJ13_bitCount_95d88_21 : decode cJ13_bitCount_95d88 21 = .ok (.land, 1) := by decide +kernel
theorem dJ13_bitCount_95d88_22 : decode cJ13_bitCount_95d88 22 = .ok (.ladd, 1) := by decide +kernel
theorem dJ13_bitCount_95d88_23 : decode cJ13_bitCount_95d88 23 = .ok (.lstore_n 0, 1) := by decide +kernel
theorem dJ13_bitCount_95d88_24 : decode cJ13_bitCount_95d88 24 = .ok (.lload_n 0, 1) := by decide +kernel
theorem dJ13_bitCount_95d88_25 : decode cJ13_bitCount_95d88 25 = .ok (.lload_n 0, 1) := by decide +kernel
theorem dJ13_bitCount_95d88_26 : decode cJ13_bitCount_95d88 26 = .ok (.iconst 4, 1) := by decide +kernel
theorem dJ13_bitCount_95d88_27 : decode cJ13_bitCount_95d88 27 = .ok (.lushr, 1) := by decide +kernel
theorem dJ13_bitCount_95d88_28 : decode cJ13_bitCount_95d88 28 = .ok (.ladd, 1) := by decide +kernel
theorem dJ13_bitCount_95d88_29 : decode cJ13_bitCount_95d88 29 = .ok (.ldc2_w 318, 3) := by decide +kernel
theorem dJ13_bitCount_95d88_32 : decode cJ13_bitCount_95d88 32 = .ok (.land, 1) := by decide +kernel
theorem dJ13_bitCount_95d88_33 : decode cJ13_bitCount_95d88 33 = .ok (.lstore_n 0, 1) := by decide +kernel
theorem dJ13_bitCount_95d88_34 : decode cJ13_bitCount_95d88 34 = .ok (.lload_n 0, 1) := by decide +kernel
theorem dJ13_bitCount_95d88_35 : decode cJ13_bitCount_95d88 35 = .ok (.lload_n 0, 1) := by decide +kernel
theorem dJ13_bitCount_95d88_36 : decode cJ13_bitCount_95d88 36 = .ok (.bipush 8, 2) := by decide +kernel
theorem dJ13_bitCount_95d88_38 : decode cJ13_bitCount_95d88 38 = .ok (.lushr, 1) := by decide +kernel
theorem dJ13_bitCount_95d88_39 : decode cJ13_bitCount_95d88 39 = .ok (.ladd, 1) := by decide +kernel
theorem dJ13_bitCount_95d88_40 : decode cJ13_bitCount_95d88 40 = .ok (.lstore_n 0, 1) := by decide +kernel
theorem dJ13_bitCount_95d88_41 : decode cJ13_bitCount_95d88 41 = .ok (.lload_n 0, 1) := by decide +kernel
theorem dJ13_bitCount_95d88_42 : decode cJ13_bitCount_95d88 42 = .ok (.lload_n 0, 1) := by decide +kernel
theorem dJ13_bitCount_95d88_43 : decode cJ13_bitCount_95d88 43 = .ok (.bipush 16, 2) := by decide +kernel
theorem dJ13_bitCount_95d88_45 : decode cJ13_bitCount_95d88 45 = .ok (.lushr, 1) := by decide +kernel
theorem dJ13_bitCount_95d88_46 : decode cJ13_bitCount_95d88 46 = .ok (.ladd, 1) := by decide +kernel
theorem dJ13_bitCount_95d88_47 : decode cJ13_bitCount_95d88 47 = .ok (.lstore_n 0, 1) := by decide +kernel
theorem dJ13_bitCount_95d88_48 : decode cJ13_bitCount_95d88 48 = .ok (.lload_n 0, 1) := by decide +kernel
theorem dJ13_bitCount_95d88_49 : decode cJ13_bitCount_95d88 49 = .ok (.lload_n 0, 1) := by decide +kernel
theorem dJ13_bitCount_95d88_50 : decode cJ13_bitCount_95d88 50 = .ok (.bipush 32, 2) := by decide +kernel
theorem dJ13_bitCount_95d88_52 : decode cJ13_bitCount_95d88 52 = .ok (.lushr, 1) := by decide +kernel
theorem dJ13_bitCount_95d88_53 : decode cJ13_bitCount_95d88 53 = .ok (.ladd, 1) := by decide +kernel
theorem dJ13_bitCount_95d88_54 : decode cJ13_bitCount_95d88 54 = .ok (.lstore_n 0, 1) := by decide +kernel
theorem dJ13_bitCount_95d88_55 : decode cJ13_bitCount_95d88 55 = .ok (.lload_n 0, 1) := by decide +kernel
theorem dJ13_bitCount_95d88_56 : decode cJ13_bitCount_95d88 56 = .ok (.l2i, 1) := by decide +kernel
theorem dJ13_bitCount_95d88_57 : decode cJ13_bitCount_95d88 57 = .ok (.bipush 127, 2) := by decide +kernel
theorem dJ13_bitCount_95d88_59 : decode cJ13_bitCount_95d88 59 = .ok (.iand, 1) := by decide +kernel
theorem dJ13_bitCount_95d88_60 : decode cJ13_bitCount_95d88 60 = .ok (.ireturn, 1) := by decide +kernel
theorem dJ9_abs_0f7a4_0 : decode cJ9_abs_0f7a4 0 = .ok (.iload_n 0, 1) := by decide +kernel
theorem dJ9_abs_0f7a4_1 : decode cJ9_abs_0f7a4 1 = .ok (.ifCond .ge 8, 3) := by decide +kernel
theorem dJ9_abs_0f7a4_4 : decode cJ9_abs_0f7a4 4 = .ok (.iload_n 0, 1) := by decide +kernel
theorem dJ9_abs_0f7a4_5 : decode cJ9_abs_0f7a4 5 = .ok (.ineg, 1) := by decide +kernel
theorem dJ9_abs_0f7a4_6 : decode cJ9_abs_0f7a4 6 = .ok (.goto 4, 3) := by decide +kernel
theorem dJ9_abs_0f7a4_9 : decode cJ9_abs_0f7a4 9 = .ok (.iload_n 0, 1) := by decide +kernel
theorem dJ9_abs_0f7a4_10 : decode cJ9_abs_0f7a4 10 = .ok (.ireturn, 1) := by decide +kernel
theorem dJ9_max_7cf53_0 : decode cJ9_max_7cf53 0 = .ok (.iload_n 0, 1) := by decide +kernel
theorem dJ9_max_7cf53_1 : decode cJ9_max_7cf53 1 = .ok (.iload_n 1, 1) := by decide +kernel
theorem dJ9_max_7cf53_2 : decode cJ9_max_7cf53 2 = .ok (.if_icmp .lt 7, 3) := by decide +kernel
theorem dJ9_max_7cf53_5 : decode cJ9_max_7cf53 5 = .ok (.iload_n 0, 1) := by decide +kernel
theorem dJ9_max_7cf53_6 : decode cJ9_max_7cf53 6 = .ok (.goto 4, 3) := by decide +kernel
theorem dJ9_max_7cf53_9 : decode cJ9_max_7cf53 9 = .ok (.iload_n 1, 1) := by decide +kernel
theorem dJ9_max_7cf53_10 : decode cJ9_max_7cf53 10 = .ok (.ireturn, 1) := by decide +kernel
theorem dJ9_min_7cf53_0 : decode cJ9_min_7cf53 0 = .ok (.iload_n 0, 1) := by decide +kernel
theorem dJ9_min_7cf53_1 : decode cJ9_min_7cf53 1 = .ok (.iload_n 1, 1) := by decide +kernel
theorem dJ9_min_7cf53_2 : decode cJ9_min_7cf53 2 = .ok (.if_icmp .gt 7, 3) := by decide +kernel
theorem dJ9_min_7cf53_5 : decode cJ9_min_7cf53 5 = .ok (.iload_n 0, 1) := by decide +kernel
theorem dJ9_min_7cf53_6 : decode cJ9_min_7cf53 6 = .ok (.goto 4, 3) := by decide +kernel
theorem dJ9_min_7cf53_9 : decode cJ9_min_7cf53 9 = .ok (.iload_n 1, 1) := by decide +kernel
theorem dJ9_min_7cf53_10 : decode cJ9_min_7cf53 10 = .ok (.ireturn, 1) := by decide +kernel
theorem dJ0_length_8abf5_0 : decode cJ0_length_8abf5 0 = .ok (.aload_n 0, 1) := by decide +kernel
theorem dJ0_length_8abf5_1 : decode cJ0_length_8abf5 1 = .ok (.getfield 9, 3) := by decide +kernel
theorem dJ0_length_8abf5_4 : decode cJ0_length_8abf5 4 = .ok (.arraylength, 1) := by decide +kernel
theorem dJ0_length_8abf5_5 : decode cJ0_length_8abf5 5 = .ok (.aload_n 0, 1) := by decide +kernel
theorem dJ0_length_8abf5_6 : decode cJ0_length_8abf5 6 = .ok (.invokevirtual 335, 3) := by decide +kernel
theorem dJ0_length_8abf5_9 : decode cJ0_length_8abf5 9 = .ok (.ishr, 1) := by decide +kernel
theorem dJ0_length_8abf5_10 : decode cJ0_length_8abf5 10 = .ok (.ireturn, 1) := by decide +kernel
theorem dJ0_charAt_5068e_0 : decode cJ0_charAt_5068e 0 = .ok (.aload_n 0, 1) := by decide +kernel
theorem dJ0_charAt_5068e_1 : decode cJ0_charAt_5068e 1 = .ok (.invokevirtual 492, 3) := by decide +kernel
theorem dJ0_charAt_5068e_4 : decode cJ0_charAt_5068e 4 = .ok (.ifCond .eq 12, 3) := by decide +kernel
theorem dJ0_charAt_5068e_7 : decode cJ0_charAt_5068e 7 = .ok (.aload_n 0, 1) := by decide +kernel
theorem dJ0_charAt_5068e_8 : decode cJ0_charAt_5068e 8 = .ok (.getfield 9, 3) := by decide +kernel
theorem dJ0_charAt_5068e_11 : decode cJ0_charAt_5068e 11 = .ok (.iload_n 1, 1) := by decide +kernel
theorem dJ0_charAt_5068e_12 : decode cJ0_charAt_5068e 12 = .ok (.invokestatic 495, 3) := by decide +kernel
theorem dJ0_charAt_5068e_15 : decode cJ0_charAt_5068e 15 = .ok (.ireturn, 1) := by decide +kernel
theorem dJ0_charAt_5068e_16 : decode cJ0_charAt_5068e 16 = .ok (.aload_n 0, 1) := by decide +kernel
theorem dJ0_charAt_5068e_17 : decode cJ0_charAt_5068e 17 = .ok (.getfield 9, 3) := by decide +kernel
theorem dJ0_charAt_5068e_20 : decode cJ0_charAt_5068e 20 = .ok (.iload_n 1, 1) := by decide +kernel
theorem dJ0_charAt_5068e_21 : decode cJ0_charAt_5068e 21 = .ok (.invokestatic 498, 3) := by decide +kernel
theorem dJ0_charAt_5068e_24 : decode cJ0_charAt_5068e 24 = .ok (.ireturn, 1) := by decide +kernel
theorem dJ0_coder_7d493_0 : decode cJ0_coder_7d493 0 = .ok (.getstatic 38, 3) := by decide +kernel
theorem dJ0_coder_7d493_3 : decode cJ0_coder_7d493 3 = .ok (.ifCond .eq 10, 3) := by decide +kernel
theorem dJ0_coder_7d493_6 : decode cJ0_coder_7d493 6 = .ok (.aload_n 0, 1) := by decide +kernel
theorem dJ0_coder_7d493_7 : decode cJ0_coder_7d493 7 = .ok (.getfield 15, 3) := by decide +kernel
theorem dJ0_coder_7d493_10 : decode cJ0_coder_7d493 10 = .ok (.goto 4, 3) := by decide +kernel
theorem dJ0_coder_7d493_13 : decode cJ0_coder_7d493 13 = .ok (.iconst 1, 1) := by decide +kernel
theorem dJ0_coder_7d493_14 : decode cJ0_coder_7d493 14 = .ok (.ireturn, 1) := by decide +kernel
theorem dJ0_isLatin1_aae02_0 : decode cJ0_isLatin1_aae02 0 = .ok (.getstatic 38, 3) := by decide +kernel
theorem dJ0_isLatin1_aae02_3 : decode cJ0_isLatin1_aae02 3 = .ok (.ifCond .eq 14, 3) := by decide +kernel
theorem dJ0_isLatin1_aae02_6 : decode cJ0_isLatin1_aae02 6 = .ok (.aload_n 0, 1) := by decide +kernel
theorem dJ0_isLatin1_aae02_7 : decode cJ0_isLatin1_aae02 7 = .ok (.getfield 15, 3) := by decide +kernel
theorem dJ0_isLatin1_aae02_10 : decode cJ0_isLatin1_aae02 10 = .ok (.ifCond .ne 7, 3) := by decide +kernel
theorem dJ0_isLatin1_aae02_13 : decode cJ0_isLatin1_aae02 13 = .ok (.iconst 1, 1) := by decide +kernel
theorem dJ0_isLatin1_aae02_14 : decode cJ0_isLatin1_aae02 14 = .ok (.goto 4, 3) := by decide +kernel
theorem dJ0_isLatin1_aae02_17 : decode cJ0_isLatin1_aae02 17 = .ok (.iconst 0, 1) := by decide +kernel
theorem dJ0_isLatin1_aae02_18 : decode cJ0_isLatin1_aae02 18 = .ok (.ireturn, 1) := by decide +kernel
theorem dJ0_checkIndex_df160_0 : decode cJ0_checkIndex_df160 0 = .ok (.iload_n 0, 1) := by decide +kernel
theorem dJ0_checkIndex_df160_1 : decode cJ0_checkIndex_df160 1 = .ok (.iload_n 1, 1) := by decide +kernel
theorem dJ0_checkIndex_df160_2 : decode cJ0_checkIndex_df160 2 = .ok (.getstatic 1053, 3) := by decide +kernel
theorem dJ0_checkIndex_df160_5 : decode cJ0_checkIndex_df160 5 = .ok (.invokestatic 1059, 3) := by decide +kernel
theorem dJ0_checkIndex_df160_8 : decode cJ0_checkIndex_df160 8 = .ok (.pop, 1) := by decide +kernel
theorem dJ0_checkIndex_df160_9 : decode cJ0_checkIndex_df160 9 = .ok (.return_, 1) := by decide +kernel
theorem dJ1_charAt_3b067_0 : decode cJ1_charAt_3b067 0 = .ok (.iload_n 1, 1) := by decide +kernel
theorem dJ1_charAt_3b067_1 : decode cJ1_charAt_3b067 1 = .ok (.aload_n 0, 1) := by decide +kernel
theorem dJ1_charAt_3b067_2 : decode cJ1_charAt_3b067 2 = .ok (.arraylength, 1) := by decide +kernel
theorem dJ1_charAt_3b067_3 : decode cJ1_charAt_3b067 3 = .ok (.invokestatic 9, 3) := by decide +kernel
theorem dJ1_charAt_3b067_6 : decode cJ1_charAt_3b067 6 = .ok (.aload_n 0, 1) := by decide +kernel
theorem dJ1_charAt_3b067_7 : decode cJ1_charAt_3b067 7 = .ok (.iload_n 1, 1) := by decide +kernel
theorem dJ1_charAt_3b067_8 : decode cJ1_charAt_3b067 8 = .ok (.baload, 1) := by decide +kernel
theorem dJ1_charAt_3b067_9 : decode cJ1_charAt_3b067 9 = .ok (.sipush 255, 3) := by decide +kernel
theorem dJ1_charAt_3b067_12 : decode cJ1_charAt_3b067 12 = .ok (.iand, 1) := by decide +kernel
theorem dJ1_charAt_3b067_13 : decode cJ1_charAt_3b067 13 = .ok (.i2c, 1) := by decide +kernel
theorem dJ1_charAt_3b067_14 : decode cJ1_charAt_3b067 14 = .ok (.ireturn, 1) := by decide +kernel
theorem dJ2_getChar_3b067_0 : decode cJ2_getChar_3b067 0 = .ok (.getstatic 44, 3) := by decide +kernel
theorem dJ2_getChar_3b067_3 : decode cJ2_getChar_3b067 3 = .ok (.ifCond .ne 25, 3) := by decide +kernel
theorem dJ2_getChar_3b067_6 : decode cJ2_getChar_3b067 6 = .ok (.iload_n 1, 1) := by decide +kernel
theorem dJ2_getChar_3b067_7 : decode cJ2_getChar_3b067 7 = .ok (.ifCond .lt 11, 3) := by decide +kernel
theorem dJ2_getChar_3b067_10 : decode cJ2_getChar_3b067 10 = .ok (.iload_n 1, 1) := by decide +kernel
theorem dJ2_getChar_3b067_11 : decode cJ2_getChar_3b067 11 = .ok (.aload_n 0, 1) := by decide +kernel
theorem dJ2_getChar_3b067_12 : decode cJ2_getChar_3b067 12 = .ok (.invokestatic 48, 3) := by decide +kernel
theorem dJ2_getChar_3b067_15 : decode cJ2_getChar_3b067 15 = .ok (.if_icmp .lt 13, 3) := by decide +kernel
theorem dJ2_getChar_3b067_18 : decode cJ2_getChar_3b067 18 = .ok (.new 52, 3) := by decide +kernel
theorem dJ2_getChar_3b067_21 : decode cJ2_getChar_3b067 21 = .ok (.dup, 1) := by decide +kernel
theorem dJ2_getChar_3b067_22 : decode cJ2_getChar_3b067 22 = .ok (.ldc 54, 2) := by decide +kernel
theorem dJ2_getChar_3b067_24 : decode cJ2_getChar_3b067 24 = .ok (.invokespecial 56, 3) := by decide +kernel
theorem dJ2_getChar_3b067_27 : decode cJ2_getChar_3b067 27 = .ok (.athrow, 1) := by decide +kernel
theorem dJ2_getChar_3b067_28 : decode cJ2_getChar_3b067 28 = .ok (.iload_n 1, 1) := by decide +kernel
theorem dJ2_getChar_3b067_29 : decode cJ2_getChar_3b067 29 = .ok (.iconst 1, 1) := by decide +kernel
theorem dJ2_getChar_3b067_30 : decode cJ2_getChar_3b067 30 = .ok (.ishl, 1) := by decide +kernel
theorem dJ2_getChar_3b067_31 : decode cJ2_getChar_3b067 31 = .ok (.istore_n 1, 1) := by decide +kernel
theorem dJ2_getChar_3b067_32 : decode cJ2_getChar_3b067 32 = .ok (.aload_n 0, 1) := by decide +kernel
theorem dJ2_getChar_3b067_33 : decode cJ2_getChar_3b067 33 = .ok (.iload_n 1, 1) := by decide +kernel
theorem dJ2_getChar_3b067_34 : decode cJ2_getChar_3b067 34 = .ok (.iinc 1 1, 3) := by decide +kernel
theorem dJ2_getChar_3b067_37 : decode cJ2_getChar_3b067 37 = .ok (.baload, 1) := by decide +kernel
theorem dJ2_getChar_3b067_38 : decode cJ2_getChar_3b067 38 = .ok (.sipush 255, 3) := by decide +kernel
theorem dJ2_getChar_3b067_41 : decode cJ2_getChar_3b067 41 = .ok (.iand, 1) := by decide +kernel
theorem dJ2_getChar_3b067_42 : decode cJ2_getChar_3b067 42 = .ok (.getstatic 59, 3) := by decide +kernel
theorem dJ2_getChar_3b067_45 : decode cJ2_getChar_3b067 45 = .ok (.ishl, 1) := by decide +kernel
theorem dJ2_getChar_3b067_46 : decode cJ2_getChar_3b067 46 = .ok (.aload_n 0, 1) := by decide +kernel
theorem dJ2_getChar_3b067_47 : decode cJ2_getChar_3b067 47 = .ok (.iload_n 1, 1) := by decide +kernel
theorem dJ2_getChar_3b067_48 : decode cJ2_getChar_3b067 48 = .ok (.baload, 1) := by decide +kernel
theorem dJ2_getChar_3b067_49 : decode cJ2_getChar_3b067 49 = .ok (.sipush 255, 3) := by decide +kernel
theorem dJ2_getChar_3b067_52 : decode cJ2_getChar_3b067 52 = .ok (.iand, 1) := by decide +kernel
theorem dJ2_getChar_3b067_53 : decode cJ2_getChar_3b067 53 = .ok (.getstatic 63, 3) := by decide +kernel
theorem dJ2_getChar_3b067_56 : decode cJ2_getChar_3b067 56 = .ok (.ishl, 1) := by decide +kernel
theorem dJ2_getChar_3b067_57 : decode cJ2_getChar_3b067 57 = .ok (.ior, 1) := by decide +kernel
theorem dJ2_getChar_3b067_58 : decode cJ2_getChar_3b067 58 = .ok (.i2c, 1) := by decide +kernel
theorem dJ2_getChar_3b067_59 : decode cJ2_getChar_3b067 59 = .ok (.ireturn, 1) := by decide +kernel
theorem dJ2_length_9d52b_0 : decode cJ2_length_9d52b 0 = .ok (.aload_n 0, 1) := by decide +kernel
theorem dJ2_length_9d52b_1 : decode cJ2_length_9d52b 1 = .ok (.arraylength, 1) := by decide +kernel
theorem dJ2_length_9d52b_2 : decode cJ2_length_9d52b 2 = .ok (.iconst 1, 1) := by decide +kernel
theorem dJ2_length_9d52b_3 : decode cJ2_length_9d52b 3 = .ok (.ishr, 1) := by decide +kernel
theorem dJ2_length_9d52b_4 : decode cJ2_length_9d52b 4 = .ok (.ireturn, 1) := by decide +kernel
theorem dJ2_charAt_3b067_0 : decode cJ2_charAt_3b067 0 = .ok (.iload_n 1, 1) := by decide +kernel
theorem dJ2_charAt_3b067_1 : decode cJ2_charAt_3b067 1 = .ok (.aload_n 0, 1) := by decide +kernel
theorem dJ2_charAt_3b067_2 : decode cJ2_charAt_3b067 2 = .ok (.invokestatic 67, 3) := by decide +kernel
theorem dJ2_charAt_3b067_5 : decode cJ2_charAt_3b067 5 = .ok (.aload_n 0, 1) := by decide +kernel
theorem dJ2_charAt_3b067_6 : decode cJ2_charAt_3b067 6 = .ok (.iload_n 1, 1) := by decide +kernel
theorem dJ2_charAt_3b067_7 : decode cJ2_charAt_3b067 7 = .ok (.invokestatic 71, 3) := by decide +kernel
theorem dJ2_charAt_3b067_10 : decode cJ2_charAt_3b067 10 = .ok (.ireturn, 1) := by decide +kernel
theorem dJ2_checkIndex_2214a_0 : decode cJ2_checkIndex_2214a 0 = .ok (.iload_n 0, 1) := by decide +kernel
theorem dJ2_checkIndex_2214a_1 : decode cJ2_checkIndex_2214a 1 = .ok (.aload_n 1, 1) := by decide +kernel
theorem dJ2_checkIndex_2214a_2 : decode cJ2_checkIndex_2214a 2 = .ok (.invokestatic 48, 3) := by decide +kernel
theorem dJ2_checkIndex_2214a_5 : decode cJ2_checkIndex_2214a 5 = .ok (.invokestatic 414, 3) := by decide +kernel
theorem dJ2_checkIndex_2214a_8 : decode cJ2_checkIndex_2214a 8 = .ok (.return_, 1) := by decide +kernel
theorem dJ3_checkIndex_8e157_0 : decode cJ3_checkIndex_8e157 0 = .ok (.iload_n 0, 1) := by decide +kernel
theorem dJ3_checkIndex_8e157_1 : decode cJ3_checkIndex_8e157 1 = .ok (.ifCond .lt 8, 3) := by decide +kernel
theorem dJ3_checkIndex_8e157_4 : decode cJ3_checkIndex_8e157 4 = .ok (.iload_n 0, 1) := by decide +kernel
theorem dJ3_checkIndex_8e157_5 : decode cJ3_checkIndex_8e157 5 = .ok (.iload_n 1, 1) := by decide +kernel
theorem dJ3_checkIndex_8e157_6 : decode cJ3_checkIndex_8e157 6 = .ok (.if_icmp .lt 10, 3) := by decide +kernel
theorem dJ3_checkIndex_8e157_9 : decode cJ3_checkIndex_8e157 9 = .ok (.aload_n 2, 1) := by decide +kernel
theorem dJ3_checkIndex_8e157_10 : decode cJ3_checkIndex_8e157 10 = .ok (.iload_n 0, 1) := by decide +kernel
theorem dJ3_checkIndex_8e157_11 : decode cJ3_checkIndex_8e157 11 = .ok (.iload_n 1, 1) := by decide +kernel
theorem dJ3_checkIndex_8e157_12 : decode cJ3_checkIndex_8e157 12 = .ok (.invokestatic 95, 3) := by decide +kernel
theorem dJ3_checkIndex_8e157_15 : decode cJ3_checkIndex_8e157 15 = .ok (.athrow, 1) := by decide +kernel
theorem dJ3_checkIndex_8e157_16 : decode cJ3_checkIndex_8e157 16 = .ok (.iload_n 0, 1) := by decide +kernel
theorem dJ3_checkIndex_8e157_17 : decode cJ3_checkIndex_8e157 17 = .ok (.ireturn, 1) := by decide +kernel
theorem dL_law_0 : decode cL_law 0 = .ok (.new 7, 3) := by decide +kernel
theorem dL_law_3 : decode cL_law 3 = .ok (.dup, 1) := by decide +kernel
theorem dL_law_4 : decode cL_law 4 = .ok (.invokespecial 9, 3) := by decide +kernel
theorem dL_law_7 : decode cL_law 7 = .ok (.astore_n 1, 1) := by decide +kernel
theorem dL_law_8 : decode cL_law 8 = .ok (.new 10, 3) := by decide +kernel
theorem dL_law_11 : decode cL_law 11 = .ok (.dup, 1) := by decide +kernel
theorem dL_law_12 : decode cL_law 12 = .ok (.invokespecial 12, 3) := by decide +kernel
theorem dL_law_15 : decode cL_law 15 = .ok (.astore_n 2, 1) := by decide +kernel
theorem dL_law_16 : decode cL_law 16 = .ok (.iconst 0, 1) := by decide +kernel
theorem dL_law_17 : decode cL_law 17 = .ok (.istore_n 3, 1) := by decide +kernel
theorem dL_law_18 : decode cL_law 18 = .ok (.iload_n 3, 1) := by decide +kernel
theorem dL_law_19 : decode cL_law 19 = .ok (.aload_n 0, 1) := by decide +kernel
theorem dL_law_20 : decode cL_law 20 = .ok (.arraylength, 1) := by decide +kernel
theorem dL_law_21 : decode cL_law 21 = .ok (.bipush 7, 2) := by decide +kernel
theorem dL_law_23 : decode cL_law 23 = .ok (.isub, 1) := by decide +kernel
theorem dL_law_24 : decode cL_law 24 = .ok (.if_icmp .gt 1236, 3) := by decide +kernel
theorem dL_law_27 : decode cL_law 27 = .ok (.aload_n 0, 1) := by decide +kernel
theorem dL_law_28 : decode cL_law 28 = .ok (.iload_n 3, 1) := by decide +kernel
theorem dL_law_29 : decode cL_law 29 = .ok (.iaload, 1) := by decide +kernel
theorem dL_law_30 : decode cL_law 30 = .ok (.bipush 31, 2) := by decide +kernel
theorem dL_law_32 : decode cL_law 32 = .ok (.iand, 1) := by decide +kernel
theorem dL_law_33 : decode cL_law 33 = .ok (.tableswitch 1221 0 23 #[111, 174, 197, 230, 253, 286, 339, 402, 445, 478, 531, 594, 637, 700, 791, 854, 907, 950, 1003, 1046, 1089, 1152, 1175, 1198], 111) := by decide +kernel
theorem dL_law_144 : decode cL_law 144 = .ok (.aload_n 1, 1) := by decide +kernel
theorem dL_law_145 : decode cL_law 145 = .ok (.aload_n 0, 1) := by decide +kernel
theorem dL_law_146 : decode cL_law 146 = .ok (.iload_n 3, 1) := by decide +kernel
theorem dL_law_147 : decode cL_law 147 = .ok (.iconst 1, 1) := by decide +kernel
theorem dL_law_148 : decode cL_law 148 = .ok (.iadd, 1) := by decide +kernel
theorem dL_law_149 : decode cL_law 149 = .ok (.iaload, 1) := by decide +kernel
theorem dL_law_150 : decode cL_law 150 = .ok (.aload_n 0, 1) := by decide +kernel
theorem dL_law_151 : decode cL_law 151 = .ok (.iload_n 3, 1) := by decide +kernel
theorem dL_law_152 : decode cL_law 152 = .ok (.iconst 2, 1) := by decide +kernel
theorem dL_law_153 : decode cL_law 153 = .ok (.iadd, 1) := by decide +kernel
theorem dL_law_154 : decode cL_law 154 = .ok (.iaload, 1) := by decide +kernel
theorem dL_law_155 : decode cL_law 155 = .ok (.aload_n 0, 1) := by decide +kernel
theorem dL_law_156 : decode cL_law 156 = .ok (.iload_n 3, 1) := by decide +kernel
theorem dL_law_157 : decode cL_law 157 = .ok (.iconst 3, 1) := by decide +kernel
theorem dL_law_158 : decode cL_law 158 = .ok (.iadd, 1) := by decide +kernel
theorem dL_law_159 : decode cL_law 159 = .ok (.iaload, 1) := by decide +kernel
theorem dL_law_160 : decode cL_law 160 = .ok (.aload_n 0, 1) := by decide +kernel
theorem dL_law_161 : decode cL_law 161 = .ok (.iload_n 3, 1) := by decide +kernel
theorem dL_law_162 : decode cL_law 162 = .ok (.iconst 4, 1) := by decide +kernel
theorem dL_law_163 : decode cL_law 163 = .ok (.iadd, 1) := by decide +kernel
theorem dL_law_164 : decode cL_law 164 = .ok (.iaload, 1) := by decide +kernel
theorem dL_law_165 : decode cL_law 165 = .ok (.aload_n 0, 1) := by decide +kernel
theorem dL_law_166 : decode cL_law 166 = .ok (.iload_n 3, 1) := by decide +kernel
theorem dL_law_167 : decode cL_law 167 = .ok (.iconst 5, 1) := by decide +kernel
theorem dL_law_168 : decode cL_law 168 = .ok (.iadd, 1) := by decide +kernel
theorem dL_law_169 : decode cL_law 169 = .ok (.iaload, 1) := by decide +kernel
theorem dL_law_170 : decode cL_law 170 = .ok (.invokevirtual 13, 3) := by decide +kernel
theorem dL_law_173 : decode cL_law 173 = .ok (.aload_n 2, 1) := by decide +kernel
theorem dL_law_174 : decode cL_law 174 = .ok (.aload_n 0, 1) := by decide +kernel
theorem dL_law_175 : decode cL_law 175 = .ok (.iload_n 3, 1) := by decide +kernel
theorem dL_law_176 : decode cL_law 176 = .ok (.iconst 1, 1) := by decide +kernel
theorem dL_law_177 : decode cL_law 177 = .ok (.iadd, 1) := by decide +kernel
theorem dL_law_178 : decode cL_law 178 = .ok (.iaload, 1) := by decide +kernel
theorem dL_law_179 : decode cL_law 179 = .ok (.aload_n 0, 1) := by decide +kernel
theorem dL_law_180 : decode cL_law 180 = .ok (.iload_n 3, 1) := by decide +kernel
theorem dL_law_181 : decode cL_law 181 = .ok (.iconst 2, 1) := by decide +kernel
theorem dL_law_182 : decode cL_law 182 = .ok (.iadd, 1) := by decide +kernel
theorem dL_law_183 : decode cL_law 183 = .ok (.iaload, 1) := by decide +kernel
theorem dL_law_184 : decode cL_law 184 = .ok (.aload_n 0, 1) := by decide +kernel
theorem dL_law_185 : decode cL_law 185 = .ok (.iload_n 3, 1) := by decide +kernel
theorem dL_law_186 : decode cL_law 186 = .ok (.iconst 3, 1) := by decide +kernel
theorem dL_law_187 : decode cL_law 187 = .ok (.iadd, 1) := by decide +kernel
theorem dL_law_188 : decode cL_law 188 = .ok (.iaload, 1) := by decide +kernel
theorem dL_law_189 : decode cL_law 189 = .ok (.aload_n 0, 1) := by decide +kernel
theorem dL_law_190 : decode cL_law 190 = .ok (.iload_n 3, 1) := by decide +kernel
theorem dL_law_191 : decode cL_law 191 = .ok (.iconst 4, 1) := by decide +kernel
theorem dL_law_192 : decode cL_law 192 = .ok (.iadd, 1) := by decide +kernel
theorem dL_law_193 : decode cL_law 193 = .ok (.iaload, 1) := by decide +kernel
theorem dL_law_194 : decode cL_law 194 = .ok (.aload_n 0, 1) := by decide +kernel
theorem dL_law_195 : decode cL_law 195 = .ok (.iload_n 3, 1) := by decide +kernel
theorem dL_law_196 : decode cL_law 196 = .ok (.iconst 5, 1) := by decide +kernel
theorem dL_law_197 : decode cL_law 197 = .ok (.iadd, 1) := by decide +kernel
theorem dL_law_198 : decode cL_law 198 = .ok (.iaload, 1) := by decide +kernel
theorem dL_law_199 : decode cL_law 199 = .ok (.invokevirtual 17, 3) := by decide +kernel
theorem dL_law_202 : decode cL_law 202 = .ok (.if_icmp .eq 1052, 3) := by decide +kernel
theorem dL_law_205 : decode cL_law 205 = .ok (.iconst 0, 1) := by decide +kernel
theorem dL_law_206 : decode cL_law 206 = .ok (.ireturn, 1) := by decide +kernel
theorem dL_law_207 : decode cL_law 207 = .ok (.aload_n 1, 1) := by decide +kernel
theorem dL_law_208 : decode cL_law 208 = .ok (.aload_n 0, 1) := by decide +kernel
theorem dL_law_209 : decode cL_law 209 = .ok (.iload_n 3, 1) := by decide +kernel
theorem dL_law_210 : decode cL_law 210 = .ok (.iconst 1, 1) := by decide +kernel
theorem dL_law_211 : decode cL_law 211 = .ok (.iadd, 1) := by decide +kernel
theorem dL_law_212 : decode cL_law 212 = .ok (.iaload, 1) := by decide +kernel
theorem dL_law_213 : decode cL_law 213 = .ok (.invokevirtual 18, 3) := by decide +kernel
theorem dL_law_216 : decode cL_law 216 = .ok (.aload_n 2, 1) := by decide +kernel
theorem dL_law_217 : decode cL_law 217 = .ok (.aload_n 0, 1) := by decide +kernel
theorem dL_law_218 : decode cL_law 218 = .ok (.iload_n 3, 1) := by decide +kernel
theorem dL_law_219 : decode cL_law 219 = .ok (.iconst 1, 1) := by decide +kernel
theorem dL_law_220 : decode cL_law 220 = .ok (.iadd, 1) := by decide +kernel
theorem dL_law_221 : decode cL_law 221 = .ok (.iaload, 1) := by decide +kernel
theorem dL_law_222 : decode cL_law 222 = .ok (.invokevirtual 22, 3) := by decide +kernel
theorem dL_law_225 : decode cL_law 225 = .ok (.if_icmp .eq 1029, 3) := by decide +kernel
theorem dL_law_228 : decode cL_law 228 = .ok (.iconst 0, 1) := by decide +kernel
theorem dL_law_229 : decode cL_law 229 = .ok (.ireturn, 1) := by decide +kernel
theorem dL_law_230 : decode cL_law 230 = .ok (.aload_n 1, 1) := by decide +kernel
theorem dL_law_231 : decode cL_law 231 = .ok (.aload_n 0, 1) := by decide +kernel
theorem dL_law_232 : decode cL_law 232 = .ok (.iload_n 3, 1) := by decide +kernel
theorem dL_law_233 : decode cL_law 233 = .ok (.iconst 1, 1) := by decide +kernel
theorem dL_law_234 : decode cL_law 234 = .ok (.iadd, 1) := by decide +kernel
theorem dL_law_235 : decode cL_law 235 = .ok (.iaload, 1) := by decide +kernel
theorem dL_law_236 : decode cL_law 236 = .ok (.aload_n 0, 1) := by decide +kernel
theorem dL_law_237 : decode cL_law 237 = .ok (.iload_n 3, 1) := by decide +kernel
theorem dL_law_238 : decode cL_law 238 = .ok (.iconst 2, 1) := by decide +kernel
theorem dL_law_239 : decode cL_law 239 = .ok (.iadd, 1) := by decide +kernel
theorem dL_law_240 : decode cL_law 240 = .ok (.iaload, 1) := by decide +kernel
theorem dL_law_241 : decode cL_law 241 = .ok (.invokevirtual 23, 3) := by decide +kernel
theorem dL_law_244 : decode cL_law 244 = .ok (.aload_n 2, 1) := by decide +kernel
theorem dL_law_245 : decode cL_law 245 = .ok (.aload_n 0, 1) := by decide +kernel
theorem dL_law_246 : decode cL_law 246 = .ok (.iload_n 3, 1) := by decide +kernel
theorem dL_law_247 : decode cL_law 247 = .ok (.iconst 1, 1) := by decide +kernel
theorem dL_law_248 : decode cL_law 248 = .ok (.iadd, 1) := by decide +kernel
theorem dL_law_249 : decode cL_law 249 = .ok (.iaload, 1) := by decide +kernel
theorem dL_law_250 : decode cL_law 250 = .ok (.aload_n 0, 1) := by decide +kernel
theorem dL_law_251 : decode cL_law 251 = .ok (.iload_n 3, 1) := by decide +kernel
theorem dL_law_252 : decode cL_law 252 = .ok (.iconst 2, 1) := by decide +kernel
theorem dL_law_253 : decode cL_law 253 = .ok (.iadd, 1) := by decide +kernel
theorem dL_law_254 : decode cL_law 254 = .ok (.iaload, 1) := by decide +kernel
theorem dL_law_255 : decode cL_law 255 = .ok (.invokevirtual 27, 3) := by decide +kernel
theorem dL_law_258 : decode cL_law 258 = .ok (.if_icmp .eq 996, 3) := by decide +kernel
theorem dL_law_261 : decode cL_law 261 = .ok (.iconst 0, 1) := by decide +kernel
theorem dL_law_262 : decode cL_law 262 = .ok (.ireturn, 1) := by decide +kernel
theorem dL_law_263 : decode cL_law 263 = .ok (.aload_n 1, 1) := by decide +kernel
theorem dL_law_264 : decode cL_law 264 = .ok (.aload_n 0, 1) := by decide +kernel
theorem dL_law_265 : decode cL_law 265 = .ok (.iload_n 3, 1) := by decide +kernel
theorem dL_law_266 : decode cL_law 266 = .ok (.iconst 1, 1) := by decide +kernel
theorem dL_law_267 : decode cL_law 267 = .ok (.iadd, 1) := by decide +kernel
theorem dL_law_268 : decode cL_law 268 = .ok (.iaload, 1) := by decide +kernel
theorem dL_law_269 : decode cL_law 269 = .ok (.invokevirtual 28, 3) := by decide +kernel
theorem dL_law_272 : decode cL_law 272 = .ok (.aload_n 2, 1) := by decide +kernel
theorem dL_law_273 : decode cL_law 273 = .ok (.aload_n 0, 1) := by decide +kernel
theorem dL_law_274 : decode cL_law 274 = .ok (.iload_n 3, 1) := by decide +kernel
theorem dL_law_275 : decode cL_law 275 = .ok (.iconst 1, 1) := by decide +kernel
theorem dL_law_276 : decode cL_law 276 = .ok (.iadd, 1) := by decide +kernel
theorem dL_law_277 : decode cL_law 277 = .ok (.iaload, 1) := by decide +kernel
theorem dL_law_278 : decode cL_law 278 = .ok (.invokevirtual 31, 3) := by decide +kernel
theorem dL_law_281 : decode cL_law 281 = .ok (.if_icmp .eq 973, 3) := by decide +kernel
theorem dL_law_284 : decode cL_law 284 = .ok (.iconst 0, 1) := by decide +kernel
theorem dL_law_285 : decode cL_law 285 = .ok (.ireturn, 1) := by decide +kernel
theorem dL_law_286 : decode cL_law 286 = .ok (.aload_n 1, 1) := by decide +kernel
theorem dL_law_287 : decode cL_law 287 = .ok (.aload_n 0, 1) := by decide +kernel
theorem dL_law_288 : decode cL_law 288 = .ok (.iload_n 3, 1) := by decide +kernel
theorem dL_law_289 : decode cL_law 289 = .ok (.iconst 1, 1) := by decide +kernel
theorem dL_law_290 : decode cL_law 290 = .ok (.iadd, 1) := by decide +kernel
theorem dL_law_291 : decode cL_law 291 = .ok (.iaload, 1) := by decide +kernel
theorem dL_law_292 : decode cL_law 292 = .ok (.aload_n 0, 1) := by decide +kernel
theorem dL_law_293 : decode cL_law 293 = .ok (.iload_n 3, 1) := by decide +kernel
theorem dL_law_294 : decode cL_law 294 = .ok (.iconst 2, 1) := by decide +kernel
theorem dL_law_295 : decode cL_law 295 = .ok (.iadd, 1) := by decide +kernel
theorem dL_law_296 : decode cL_law 296 = .ok (.iaload, 1) := by decide +kernel
theorem dL_law_297 : decode cL_law 297 = .ok (.invokevirtual 32, 3) := by decide +kernel
theorem dL_law_300 : decode cL_law 300 = .ok (.aload_n 2, 1) := by decide +kernel
theorem dL_law_301 : decode cL_law 301 = .ok (.aload_n 0, 1) := by decide +kernel
theorem dL_law_302 : decode cL_law 302 = .ok (.iload_n 3, 1) := by decide +kernel
theorem dL_law_303 : decode cL_law 303 = .ok (.iconst 1, 1) := by decide +kernel
theorem dL_law_304 : decode cL_law 304 = .ok (.iadd, 1) := by decide +kernel
theorem dL_law_305 : decode cL_law 305 = .ok (.iaload, 1) := by decide +kernel
theorem dL_law_306 : decode cL_law 306 = .ok (.aload_n 0, 1) := by decide +kernel
theorem dL_law_307 : decode cL_law 307 = .ok (.iload_n 3, 1) := by decide +kernel
theorem dL_law_308 : decode cL_law 308 = .ok (.iconst 2, 1) := by decide +kernel
theorem dL_law_309 : decode cL_law 309 = .ok (.iadd, 1) := by decide +kernel
theorem dL_law_310 : decode cL_law 310 = .ok (.iaload, 1) := by decide +kernel
theorem dL_law_311 : decode cL_law 311 = .ok (.invokevirtual 35, 3) := by decide +kernel
theorem dL_law_314 : decode cL_law 314 = .ok (.if_icmp .eq 940, 3) := by decide +kernel
theorem dL_law_317 : decode cL_law 317 = .ok (.iconst 0, 1) := by decide +kernel
theorem dL_law_318 : decode cL_law 318 = .ok (.ireturn, 1) := by decide +kernel
theorem dL_law_319 : decode cL_law 319 = .ok (.aload_n 1, 1) := by decide +kernel
theorem dL_law_320 : decode cL_law 320 = .ok (.aload_n 0, 1) := by decide +kernel
theorem dL_law_321 : decode cL_law 321 = .ok (.iload_n 3, 1) := by decide +kernel
theorem dL_law_322 : decode cL_law 322 = .ok (.iconst 1, 1) := by decide +kernel
theorem dL_law_323 : decode cL_law 323 = .ok (.iadd, 1) := by decide +kernel
theorem dL_law_324 : decode cL_law 324 = .ok (.iaload, 1) := by decide +kernel
theorem dL_law_325 : decode cL_law 325 = .ok (.aload_n 0, 1) := by decide +kernel
theorem dL_law_326 : decode cL_law 326 = .ok (.iload_n 3, 1) := by decide +kernel
theorem dL_law_327 : decode cL_law 327 = .ok (.iconst 2, 1) := by decide +kernel
theorem dL_law_328 : decode cL_law 328 = .ok (.iadd, 1) := by decide +kernel
theorem dL_law_329 : decode cL_law 329 = .ok (.iaload, 1) := by decide +kernel
theorem dL_law_330 : decode cL_law 330 = .ok (.aload_n 0, 1) := by decide +kernel
theorem dL_law_331 : decode cL_law 331 = .ok (.iload_n 3, 1) := by decide +kernel
theorem dL_law_332 : decode cL_law 332 = .ok (.iconst 3, 1) := by decide +kernel
theorem dL_law_333 : decode cL_law 333 = .ok (.iadd, 1) := by decide +kernel
theorem dL_law_334 : decode cL_law 334 = .ok (.iaload, 1) := by decide +kernel
theorem dL_law_335 : decode cL_law 335 = .ok (.aload_n 0, 1) := by decide +kernel
theorem dL_law_336 : decode cL_law 336 = .ok (.iload_n 3, 1) := by decide +kernel
theorem dL_law_337 : decode cL_law 337 = .ok (.iconst 4, 1) := by decide +kernel
theorem dL_law_338 : decode cL_law 338 = .ok (.iadd, 1) := by decide +kernel
theorem dL_law_339 : decode cL_law 339 = .ok (.iaload, 1) := by decide +kernel
theorem dL_law_340 : decode cL_law 340 = .ok (.invokevirtual 36, 3) := by decide +kernel
theorem dL_law_343 : decode cL_law 343 = .ok (.aload_n 2, 1) := by decide +kernel
theorem dL_law_344 : decode cL_law 344 = .ok (.aload_n 0, 1) := by decide +kernel
theorem dL_law_345 : decode cL_law 345 = .ok (.iload_n 3, 1) := by decide +kernel
theorem dL_law_346 : decode cL_law 346 = .ok (.iconst 1, 1) := by decide +kernel
theorem dL_law_347 : decode cL_law 347 = .ok (.iadd, 1) := by decide +kernel
theorem dL_law_348 : decode cL_law 348 = .ok (.iaload, 1) := by decide +kernel
theorem dL_law_349 : decode cL_law 349 = .ok (.aload_n 0, 1) := by decide +kernel
theorem dL_law_350 : decode cL_law 350 = .ok (.iload_n 3, 1) := by decide +kernel
theorem dL_law_351 : decode cL_law 351 = .ok (.iconst 2, 1) := by decide +kernel
theorem dL_law_352 : decode cL_law 352 = .ok (.iadd, 1) := by decide +kernel
theorem dL_law_353 : decode cL_law 353 = .ok (.iaload, 1) := by decide +kernel
theorem dL_law_354 : decode cL_law 354 = .ok (.aload_n 0, 1) := by decide +kernel
theorem dL_law_355 : decode cL_law 355 = .ok (.iload_n 3, 1) := by decide +kernel
theorem dL_law_356 : decode cL_law 356 = .ok (.iconst 3, 1) := by decide +kernel
theorem dL_law_357 : decode cL_law 357 = .ok (.iadd, 1) := by decide +kernel
theorem dL_law_358 : decode cL_law 358 = .ok (.iaload, 1) := by decide +kernel
theorem dL_law_359 : decode cL_law 359 = .ok (.aload_n 0, 1) := by decide +kernel
theorem dL_law_360 : decode cL_law 360 = .ok (.iload_n 3, 1) := by decide +kernel
theorem dL_law_361 : decode cL_law 361 = .ok (.iconst 4, 1) := by decide +kernel
theorem dL_law_362 : decode cL_law 362 = .ok (.iadd, 1) := by decide +kernel
theorem dL_law_363 : decode cL_law 363 = .ok (.iaload, 1) := by decide +kernel
theorem dL_law_364 : decode cL_law 364 = .ok (.invokevirtual 40, 3) := by decide +kernel
theorem dL_law_367 : decode cL_law 367 = .ok (.if_icmp .eq 887, 3) := by decide +kernel
theorem dL_law_370 : decode cL_law 370 = .ok (.iconst 0, 1) := by decide +kernel
theorem dL_law_371 : decode cL_law 371 = .ok (.ireturn, 1) := by decide +kernel
theorem dL_law_372 : decode cL_law 372 = .ok (.aload_n 1, 1) := by decide +kernel
theorem dL_law_373 : decode cL_law 373 = .ok (.aload_n 0, 1) := by decide +kernel
theorem dL_law_374 : decode cL_law 374 = .ok (.iload_n 3, 1) := by decide +kernel
theorem dL_law_375 : decode cL_law 375 = .ok (.iconst 1, 1) := by decide +kernel
theorem dL_law_376 : decode cL_law 376 = .ok (.iadd, 1) := by decide +kernel
theorem dL_law_377 : decode cL_law 377 = .ok (.iaload, 1) := by decide +kernel
theorem dL_law_378 : decode cL_law 378 = .ok (.aload_n 0, 1) := by decide +kernel
theorem dL_law_379 : decode cL_law 379 = .ok (.iload_n 3, 1) := by decide +kernel
theorem dL_law_380 : decode cL_law 380 = .ok (.iconst 2, 1) := by decide +kernel
theorem dL_law_381 : decode cL_law 381 = .ok (.iadd, 1) := by decide +kernel
theorem dL_law_382 : decode cL_law 382 = .ok (.iaload, 1) := by decide +kernel
theorem dL_law_383 : decode cL_law 383 = .ok (.aload_n 0, 1) := by decide +kernel
theorem dL_law_384 : decode cL_law 384 = .ok (.iload_n 3, 1) := by decide +kernel
theorem dL_law_385 : decode cL_law 385 = .ok (.iconst 3, 1) := by decide +kernel
theorem dL_law_386 : decode cL_law 386 = .ok (.iadd, 1) := by decide +kernel
theorem dL_law_387 : decode cL_law 387 = .ok (.iaload, 1) := by decide +kernel
theorem dL_law_388 : decode cL_law 388 = .ok (.aload_n 0, 1) := by decide +kernel
theorem dL_law_389 : decode cL_law 389 = .ok (.iload_n 3, 1) := by decide +kernel
theorem dL_law_390 : decode cL_law 390 = .ok (.iconst 4, 1) := by decide +kernel
theorem dL_law_391 : decode cL_law 391 = .ok (.iadd, 1) := by decide +kernel
theorem dL_law_392 : decode cL_law 392 = .ok (.iaload, 1) := by decide +kernel
theorem dL_law_393 : decode cL_law 393 = .ok (.aload_n 0, 1) := by decide +kernel
theorem dL_law_394 : decode cL_law 394 = .ok (.iload_n 3, 1) := by decide +kernel
theorem dL_law_395 : decode cL_law 395 = .ok (.iconst 5, 1) := by decide +kernel
theorem dL_law_396 : decode cL_law 396 = .ok (.iadd, 1) := by decide +kernel
theorem dL_law_397 : decode cL_law 397 = .ok (.iaload, 1) := by decide +kernel
theorem dL_law_398 : decode cL_law 398 = .ok (.invokevirtual 41, 3) := by decide +kernel
theorem dL_law_401 : decode cL_law 401 = .ok (.aload_n 2, 1) := by decide +kernel
theorem dL_law_402 : decode cL_law 402 = .ok (.aload_n 0, 1) := by decide +kernel
theorem dL_law_403 : decode cL_law 403 = .ok (.iload_n 3, 1) := by decide +kernel
theorem dL_law_404 : decode cL_law 404 = .ok (.iconst 1, 1) := by decide +kernel
theorem dL_law_405 : decode cL_law 405 = .ok (.iadd, 1) := by decide +kernel
theorem dL_law_406 : decode cL_law 406 = .ok (.iaload, 1) := by decide +kernel
theorem dL_law_407 : decode cL_law 407 = .ok (.aload_n 0, 1) := by decide +kernel
theorem dL_law_408 : decode cL_law 408 = .ok (.iload_n 3, 1) := by decide +kernel
theorem dL_law_409 : decode cL_law 409 = .ok (.iconst 2, 1) := by decide +kernel
theorem dL_law_410 : decode cL_law 410 = .ok (.iadd, 1) := by decide +kernel
theorem dL_law_411 : decode cL_law 411 = .ok (.iaload, 1) := by decide +kernel
theorem dL_law_412 : decode cL_law 412 = .ok (.aload_n 0, 1) := by decide +kernel
theorem dL_law_413 : decode cL_law 413 = .ok (.iload_n 3, 1) := by decide +kernel
theorem dL_law_414 : decode cL_law 414 = .ok (.iconst 3, 1) := by decide +kernel
theorem dL_law_415 : decode cL_law 415 = .ok (.iadd, 1) := by decide +kernel
theorem dL_law_416 : decode cL_law 416 = .ok (.iaload, 1) := by decide +kernel
theorem dL_law_417 : decode cL_law 417 = .ok (.aload_n 0, 1) := by decide +kernel
theorem dL_law_418 : decode cL_law 418 = .ok (.iload_n 3, 1) := by decide +kernel
theorem dL_law_419 : decode cL_law 419 = .ok (.iconst 4, 1) := by decide +kernel
theorem dL_law_420 : decode cL_law 420 = .ok (.iadd, 1) := by decide +kernel
theorem dL_law_421 : decode cL_law 421 = .ok (.iaload, 1) := by decide +kernel
theorem dL_law_422 : decode cL_law 422 = .ok (.aload_n 0, 1) := by decide +kernel
theorem dL_law_423 : decode cL_law 423 = .ok (.iload_n 3, 1) := by decide +kernel
theorem dL_law_424 : decode cL_law 424 = .ok (.iconst 5, 1) := by decide +kernel
theorem dL_law_425 : decode cL_law 425 = .ok (.iadd, 1) := by decide +kernel
theorem dL_law_426 : decode cL_law 426 = .ok (.iaload, 1) := by decide +kernel
theorem dL_law_427 : decode cL_law 427 = .ok (.invokevirtual 44, 3) := by decide +kernel
theorem dL_law_430 : decode cL_law 430 = .ok (.if_icmp .eq 824, 3) := by decide +kernel
theorem dL_law_433 : decode cL_law 433 = .ok (.iconst 0, 1) := by decide +kernel
theorem dL_law_434 : decode cL_law 434 = .ok (.ireturn, 1) := by decide +kernel
theorem dL_law_435 : decode cL_law 435 = .ok (.aload_n 1, 1) := by decide +kernel
theorem dL_law_436 : decode cL_law 436 = .ok (.aload_n 0, 1) := by decide +kernel
theorem dL_law_437 : decode cL_law 437 = .ok (.iload_n 3, 1) := by decide +kernel
theorem dL_law_438 : decode cL_law 438 = .ok (.iconst 1, 1) := by decide +kernel
theorem dL_law_439 : decode cL_law 439 = .ok (.iadd, 1) := by decide +kernel
theorem dL_law_440 : decode cL_law 440 = .ok (.iaload, 1) := by decide +kernel
theorem dL_law_441 : decode cL_law 441 = .ok (.aload_n 0, 1) := by decide +kernel
theorem dL_law_442 : decode cL_law 442 = .ok (.iload_n 3, 1) := by decide +kernel
theorem dL_law_443 : decode cL_law 443 = .ok (.iconst 2, 1) := by decide +kernel
theorem dL_law_444 : decode cL_law 444 = .ok (.iadd, 1) := by decide +kernel
theorem dL_law_445 : decode cL_law 445 = .ok (.iaload, 1) := by decide +kernel
theorem dL_law_446 : decode cL_law 446 = .ok (.aload_n 0, 1) := by decide +kernel
theorem dL_law_447 : decode cL_law 447 = .ok (.iload_n 3, 1) := by decide +kernel
theorem dL_law_448 : decode cL_law 448 = .ok (.iconst 3, 1) := by decide +kernel
theorem dL_law_449 : decode cL_law 449 = .ok (.iadd, 1) := by decide +kernel
theorem dL_law_450 : decode cL_law 450 = .ok (.iaload, 1) := by decide +kernel
theorem dL_law_451 : decode cL_law 451 = .ok (.invokevirtual 45, 3) := by decide +kernel
theorem dL_law_454 : decode cL_law 454 = .ok (.aload_n 2, 1) := by decide +kernel
theorem dL_law_455 : decode cL_law 455 = .ok (.aload_n 0, 1) := by decide +kernel
theorem dL_law_456 : decode cL_law 456 = .ok (.iload_n 3, 1) := by decide +kernel
theorem dL_law_457 : decode cL_law 457 = .ok (.iconst 1, 1) := by decide +kernel
theorem dL_law_458 : decode cL_law 458 = .ok (.iadd, 1) := by decide +kernel
theorem dL_law_459 : decode cL_law 459 = .ok (.iaload, 1) := by decide +kernel
theorem dL_law_460 : decode cL_law 460 = .ok (.aload_n 0, 1) := by decide +kernel
theorem dL_law_461 : decode cL_law 461 = .ok (.iload_n 3, 1) := by decide +kernel
theorem dL_law_462 : decode cL_law 462 = .ok (.iconst 2, 1) := by decide +kernel
theorem dL_law_463 : decode cL_law 463 = .ok (.iadd, 1) := by decide +kernel
theorem dL_law_464 : decode cL_law 464 = .ok (.iaload, 1) := by decide +kernel
theorem dL_law_465 : decode cL_law 465 = .ok (.aload_n 0, 1) := by decide +kernel
theorem dL_law_466 : decode cL_law 466 = .ok (.iload_n 3, 1) := by decide +kernel
theorem dL_law_467 : decode cL_law 467 = .ok (.iconst 3, 1) := by decide +kernel
theorem dL_law_468 : decode cL_law 468 = .ok (.iadd, 1) := by decide +kernel
theorem dL_law_469 : decode cL_law 469 = .ok (.iaload, 1) := by decide +kernel
theorem dL_law_470 : decode cL_law 470 = .ok (.invokevirtual 49, 3) := by decide +kernel
theorem dL_law_473 : decode cL_law 473 = .ok (.if_icmp .eq 781, 3) := by decide +kernel
theorem dL_law_476 : decode cL_law 476 = .ok (.iconst 0, 1) := by decide +kernel
theorem dL_law_477 : decode cL_law 477 = .ok (.ireturn, 1) := by decide +kernel
theorem dL_law_478 : decode cL_law 478 = .ok (.aload_n 1, 1) := by decide +kernel
theorem dL_law_479 : decode cL_law 479 = .ok (.aload_n 0, 1) := by decide +kernel
theorem dL_law_480 : decode cL_law 480 = .ok (.iload_n 3, 1) := by decide +kernel
theorem dL_law_481 : decode cL_law 481 = .ok (.iconst 1, 1) := by decide +kernel
theorem dL_law_482 : decode cL_law 482 = .ok (.iadd, 1) := by decide +kernel
theorem dL_law_483 : decode cL_law 483 = .ok (.iaload, 1) := by decide +kernel
theorem dL_law_484 : decode cL_law 484 = .ok (.aload_n 0, 1) := by decide +kernel
theorem dL_law_485 : decode cL_law 485 = .ok (.iload_n 3, 1) := by decide +kernel
theorem dL_law_486 : decode cL_law 486 = .ok (.iconst 2, 1) := by decide +kernel
theorem dL_law_487 : decode cL_law 487 = .ok (.iadd, 1) := by decide +kernel
theorem dL_law_488 : decode cL_law 488 = .ok (.iaload, 1) := by decide +kernel
theorem dL_law_489 : decode cL_law 489 = .ok (.invokevirtual 50, 3) := by decide +kernel
theorem dL_law_492 : decode cL_law 492 = .ok (.aload_n 2, 1) := by decide +kernel
theorem dL_law_493 : decode cL_law 493 = .ok (.aload_n 0, 1) := by decide +kernel
theorem dL_law_494 : decode cL_law 494 = .ok (.iload_n 3, 1) := by decide +kernel
theorem dL_law_495 : decode cL_law 495 = .ok (.iconst 1, 1) := by decide +kernel
theorem dL_law_496 : decode cL_law 496 = .ok (.iadd, 1) := by decide +kernel
theorem dL_law_497 : decode cL_law 497 = .ok (.iaload, 1) := by decide +kernel
theorem dL_law_498 : decode cL_law 498 = .ok (.aload_n 0, 1) := by decide +kernel
theorem dL_law_499 : decode cL_law 499 = .ok (.iload_n 3, 1) := by decide +kernel
theorem dL_law_500 : decode cL_law 500 = .ok (.iconst 2, 1) := by decide +kernel
theorem dL_law_501 : decode cL_law 501 = .ok (.iadd, 1) := by decide +kernel
theorem dL_law_502 : decode cL_law 502 = .ok (.iaload, 1) := by decide +kernel
theorem dL_law_503 : decode cL_law 503 = .ok (.invokevirtual 53, 3) := by decide +kernel
theorem dL_law_506 : decode cL_law 506 = .ok (.if_icmp .eq 748, 3) := by decide +kernel
theorem dL_law_509 : decode cL_law 509 = .ok (.iconst 0, 1) := by decide +kernel
theorem dL_law_510 : decode cL_law 510 = .ok (.ireturn, 1) := by decide +kernel
theorem dL_law_511 : decode cL_law 511 = .ok (.aload_n 1, 1) := by decide +kernel
theorem dL_law_512 : decode cL_law 512 = .ok (.aload_n 0, 1) := by decide +kernel
theorem dL_law_513 : decode cL_law 513 = .ok (.iload_n 3, 1) := by decide +kernel
theorem dL_law_514 : decode cL_law 514 = .ok (.iconst 1, 1) := by decide +kernel
theorem dL_law_515 : decode cL_law 515 = .ok (.iadd, 1) := by decide +kernel
theorem dL_law_516 : decode cL_law 516 = .ok (.iaload, 1) := by decide +kernel
theorem dL_law_517 : decode cL_law 517 = .ok (.aload_n 0, 1) := by decide +kernel
theorem dL_law_518 : decode cL_law 518 = .ok (.iload_n 3, 1) := by decide +kernel
theorem dL_law_519 : decode cL_law 519 = .ok (.iconst 2, 1) := by decide +kernel
theorem dL_law_520 : decode cL_law 520 = .ok (.iadd, 1) := by decide +kernel
theorem dL_law_521 : decode cL_law 521 = .ok (.iaload, 1) := by decide +kernel
theorem dL_law_522 : decode cL_law 522 = .ok (.aload_n 0, 1) := by decide +kernel
theorem dL_law_523 : decode cL_law 523 = .ok (.iload_n 3, 1) := by decide +kernel
theorem dL_law_524 : decode cL_law 524 = .ok (.iconst 3, 1) := by decide +kernel
theorem dL_law_525 : decode cL_law 525 = .ok (.iadd, 1) := by decide +kernel
theorem dL_law_526 : decode cL_law 526 = .ok (.iaload, 1) := by decide +kernel
theorem dL_law_527 : decode cL_law 527 = .ok (.aload_n 0, 1) := by decide +kernel
theorem dL_law_528 : decode cL_law 528 = .ok (.iload_n 3, 1) := by decide +kernel
theorem dL_law_529 : decode cL_law 529 = .ok (.iconst 4, 1) := by decide +kernel
theorem dL_law_530 : decode cL_law 530 = .ok (.iadd, 1) := by decide +kernel
theorem dL_law_531 : decode cL_law 531 = .ok (.iaload, 1) := by decide +kernel
theorem dL_law_532 : decode cL_law 532 = .ok (.invokevirtual 54, 3) := by decide +kernel
theorem dL_law_535 : decode cL_law 535 = .ok (.aload_n 2, 1) := by decide +kernel
theorem dL_law_536 : decode cL_law 536 = .ok (.aload_n 0, 1) := by decide +kernel
theorem dL_law_537 : decode cL_law 537 = .ok (.iload_n 3, 1) := by decide +kernel
theorem dL_law_538 : decode cL_law 538 = .ok (.iconst 1, 1) := by decide +kernel
theorem dL_law_539 : decode cL_law 539 = .ok (.iadd, 1) := by decide +kernel
theorem dL_law_540 : decode cL_law 540 = .ok (.iaload, 1) := by decide +kernel
theorem dL_law_541 : decode cL_law 541 = .ok (.aload_n 0, 1) := by decide +kernel
theorem dL_law_542 : decode cL_law 542 = .ok (.iload_n 3, 1) := by decide +kernel
theorem dL_law_543 : decode cL_law 543 = .ok (.iconst 2, 1) := by decide +kernel
theorem dL_law_544 : decode cL_law 544 = .ok (.iadd, 1) := by decide +kernel
theorem dL_law_545 : decode cL_law 545 = .ok (.iaload, 1) := by decide +kernel
theorem dL_law_546 : decode cL_law 546 = .ok (.aload_n 0, 1) := by decide +kernel
theorem dL_law_547 : decode cL_law 547 = .ok (.iload_n 3, 1) := by decide +kernel
theorem dL_law_548 : decode cL_law 548 = .ok (.iconst 3, 1) := by decide +kernel
theorem dL_law_549 : decode cL_law 549 = .ok (.iadd, 1) := by decide +kernel
theorem dL_law_550 : decode cL_law 550 = .ok (.iaload, 1) := by decide +kernel
theorem dL_law_551 : decode cL_law 551 = .ok (.aload_n 0, 1) := by decide +kernel
theorem dL_law_552 : decode cL_law 552 = .ok (.iload_n 3, 1) := by decide +kernel
theorem dL_law_553 : decode cL_law 553 = .ok (.iconst 4, 1) := by decide +kernel
theorem dL_law_554 : decode cL_law 554 = .ok (.iadd, 1) := by decide +kernel
theorem dL_law_555 : decode cL_law 555 = .ok (.iaload, 1) := by decide +kernel
theorem dL_law_556 : decode cL_law 556 = .ok (.invokevirtual 57, 3) := by decide +kernel
theorem dL_law_559 : decode cL_law 559 = .ok (.if_icmp .eq 695, 3) := by decide +kernel
theorem dL_law_562 : decode cL_law 562 = .ok (.iconst 0, 1) := by decide +kernel
theorem dL_law_563 : decode cL_law 563 = .ok (.ireturn, 1) := by decide +kernel
theorem dL_law_564 : decode cL_law 564 = .ok (.aload_n 1, 1) := by decide +kernel
theorem dL_law_565 : decode cL_law 565 = .ok (.aload_n 0, 1) := by decide +kernel
theorem dL_law_566 : decode cL_law 566 = .ok (.iload_n 3, 1) := by decide +kernel
theorem dL_law_567 : decode cL_law 567 = .ok (.iconst 1, 1) := by decide +kernel
theorem dL_law_568 : decode cL_law 568 = .ok (.iadd, 1) := by decide +kernel
theorem dL_law_569 : decode cL_law 569 = .ok (.iaload, 1) := by decide +kernel
theorem dL_law_570 : decode cL_law 570 = .ok (.aload_n 0, 1) := by decide +kernel
theorem dL_law_571 : decode cL_law 571 = .ok (.iload_n 3, 1) := by decide +kernel
theorem dL_law_572 : decode cL_law 572 = .ok (.iconst 2, 1) := by decide +kernel
theorem dL_law_573 : decode cL_law 573 = .ok (.iadd, 1) := by decide +kernel
theorem dL_law_574 : decode cL_law 574 = .ok (.iaload, 1) := by decide +kernel
theorem dL_law_575 : decode cL_law 575 = .ok (.aload_n 0, 1) := by decide +kernel
theorem dL_law_576 : decode cL_law 576 = .ok (.iload_n 3, 1) := by decide +kernel
theorem dL_law_577 : decode cL_law 577 = .ok (.iconst 3, 1) := by decide +kernel
theorem dL_law_578 : decode cL_law 578 = .ok (.iadd, 1) := by decide +kernel
theorem dL_law_579 : decode cL_law 579 = .ok (.iaload, 1) := by decide +kernel
theorem dL_law_580 : decode cL_law 580 = .ok (.aload_n 0, 1) := by decide +kernel
theorem dL_law_581 : decode cL_law 581 = .ok (.iload_n 3, 1) := by decide +kernel
theorem dL_law_582 : decode cL_law 582 = .ok (.iconst 4, 1) := by decide +kernel
theorem dL_law_583 : decode cL_law 583 = .ok (.iadd, 1) := by decide +kernel
theorem dL_law_584 : decode cL_law 584 = .ok (.iaload, 1) := by decide +kernel
theorem dL_law_585 : decode cL_law 585 = .ok (.aload_n 0, 1) := by decide +kernel
theorem dL_law_586 : decode cL_law 586 = .ok (.iload_n 3, 1) := by decide +kernel
theorem dL_law_587 : decode cL_law 587 = .ok (.iconst 5, 1) := by decide +kernel
theorem dL_law_588 : decode cL_law 588 = .ok (.iadd, 1) := by decide +kernel
theorem dL_law_589 : decode cL_law 589 = .ok (.iaload, 1) := by decide +kernel
theorem dL_law_590 : decode cL_law 590 = .ok (.invokevirtual 58, 3) := by decide +kernel
theorem dL_law_593 : decode cL_law 593 = .ok (.aload_n 2, 1) := by decide +kernel
theorem dL_law_594 : decode cL_law 594 = .ok (.aload_n 0, 1) := by decide +kernel
theorem dL_law_595 : decode cL_law 595 = .ok (.iload_n 3, 1) := by decide +kernel
theorem dL_law_596 : decode cL_law 596 = .ok (.iconst 1, 1) := by decide +kernel
theorem dL_law_597 : decode cL_law 597 = .ok (.iadd, 1) := by decide +kernel
theorem dL_law_598 : decode cL_law 598 = .ok (.iaload, 1) := by decide +kernel
theorem dL_law_599 : decode cL_law 599 = .ok (.aload_n 0, 1) := by decide +kernel
theorem dL_law_600 : decode cL_law 600 = .ok (.iload_n 3, 1) := by decide +kernel
theorem dL_law_601 : decode cL_law 601 = .ok (.iconst 2, 1) := by decide +kernel
theorem dL_law_602 : decode cL_law 602 = .ok (.iadd, 1) := by decide +kernel
theorem dL_law_603 : decode cL_law 603 = .ok (.iaload, 1) := by decide +kernel
theorem dL_law_604 : decode cL_law 604 = .ok (.aload_n 0, 1) := by decide +kernel
theorem dL_law_605 : decode cL_law 605 = .ok (.iload_n 3, 1) := by decide +kernel
theorem dL_law_606 : decode cL_law 606 = .ok (.iconst 3, 1) := by decide +kernel
theorem dL_law_607 : decode cL_law 607 = .ok (.iadd, 1) := by decide +kernel
theorem dL_law_608 : decode cL_law 608 = .ok (.iaload, 1) := by decide +kernel
theorem dL_law_609 : decode cL_law 609 = .ok (.aload_n 0, 1) := by decide +kernel
theorem dL_law_610 : decode cL_law 610 = .ok (.iload_n 3, 1) := by decide +kernel
theorem dL_law_611 : decode cL_law 611 = .ok (.iconst 4, 1) := by decide +kernel
theorem dL_law_612 : decode cL_law 612 = .ok (.iadd, 1) := by decide +kernel
theorem dL_law_613 : decode cL_law 613 = .ok (.iaload, 1) := by decide +kernel
theorem dL_law_614 : decode cL_law 614 = .ok (.aload_n 0, 1) := by decide +kernel
theorem dL_law_615 : decode cL_law 615 = .ok (.iload_n 3, 1) := by decide +kernel
theorem dL_law_616 : decode cL_law 616 = .ok (.iconst 5, 1) := by decide +kernel
theorem dL_law_617 : decode cL_law 617 = .ok (.iadd, 1) := by decide +kernel
theorem dL_law_618 : decode cL_law 618 = .ok (.iaload, 1) := by decide +kernel
theorem dL_law_619 : decode cL_law 619 = .ok (.invokevirtual 61, 3) := by decide +kernel
theorem dL_law_622 : decode cL_law 622 = .ok (.if_icmp .eq 632, 3) := by decide +kernel
theorem dL_law_625 : decode cL_law 625 = .ok (.iconst 0, 1) := by decide +kernel
theorem dL_law_626 : decode cL_law 626 = .ok (.ireturn, 1) := by decide +kernel
theorem dL_law_627 : decode cL_law 627 = .ok (.aload_n 1, 1) := by decide +kernel
theorem dL_law_628 : decode cL_law 628 = .ok (.aload_n 0, 1) := by decide +kernel
theorem dL_law_629 : decode cL_law 629 = .ok (.iload_n 3, 1) := by decide +kernel
theorem dL_law_630 : decode cL_law 630 = .ok (.iconst 1, 1) := by decide +kernel
theorem dL_law_631 : decode cL_law 631 = .ok (.iadd, 1) := by decide +kernel
theorem dL_law_632 : decode cL_law 632 = .ok (.iaload, 1) := by decide +kernel
theorem dL_law_633 : decode cL_law 633 = .ok (.aload_n 0, 1) := by decide +kernel
theorem dL_law_634 : decode cL_law 634 = .ok (.iload_n 3, 1) := by decide +kernel
theorem dL_law_635 : decode cL_law 635 = .ok (.iconst 2, 1) := by decide +kernel
theorem dL_law_636 : decode cL_law 636 = .ok (.iadd, 1) := by decide +kernel
theorem dL_law_637 : decode cL_law 637 = .ok (.iaload, 1) := by decide +kernel
theorem dL_law_638 : decode cL_law 638 = .ok (.aload_n 0, 1) := by decide +kernel
theorem dL_law_639 : decode cL_law 639 = .ok (.iload_n 3, 1) := by decide +kernel
theorem dL_law_640 : decode cL_law 640 = .ok (.iconst 3, 1) := by decide +kernel
theorem dL_law_641 : decode cL_law 641 = .ok (.iadd, 1) := by decide +kernel
theorem dL_law_642 : decode cL_law 642 = .ok (.iaload, 1) := by decide +kernel
theorem dL_law_643 : decode cL_law 643 = .ok (.invokevirtual 62, 3) := by decide +kernel
theorem dL_law_646 : decode cL_law 646 = .ok (.aload_n 2, 1) := by decide +kernel
theorem dL_law_647 : decode cL_law 647 = .ok (.aload_n 0, 1) := by decide +kernel
theorem dL_law_648 : decode cL_law 648 = .ok (.iload_n 3, 1) := by decide +kernel
theorem dL_law_649 : decode cL_law 649 = .ok (.iconst 1, 1) := by decide +kernel
theorem dL_law_650 : decode cL_law 650 = .ok (.iadd, 1) := by decide +kernel
theorem dL_law_651 : decode cL_law 651 = .ok (.iaload, 1) := by decide +kernel
theorem dL_law_652 : decode cL_law 652 = .ok (.aload_n 0, 1) := by decide +kernel
theorem dL_law_653 : decode cL_law 653 = .ok (.iload_n 3, 1) := by decide +kernel
theorem dL_law_654 : decode cL_law 654 = .ok (.iconst 2, 1) := by decide +kernel
theorem dL_law_655 : decode cL_law 655 = .ok (.iadd, 1) := by decide +kernel
theorem dL_law_656 : decode cL_law 656 = .ok (.iaload, 1) := by decide +kernel
theorem dL_law_657 : decode cL_law 657 = .ok (.aload_n 0, 1) := by decide +kernel
theorem dL_law_658 : decode cL_law 658 = .ok (.iload_n 3, 1) := by decide +kernel
theorem dL_law_659 : decode cL_law 659 = .ok (.iconst 3, 1) := by decide +kernel
theorem dL_law_660 : decode cL_law 660 = .ok (.iadd, 1) := by decide +kernel
theorem dL_law_661 : decode cL_law 661 = .ok (.iaload, 1) := by decide +kernel
theorem dL_law_662 : decode cL_law 662 = .ok (.invokevirtual 65, 3) := by decide +kernel
theorem dL_law_665 : decode cL_law 665 = .ok (.if_icmp .eq 589, 3) := by decide +kernel
theorem dL_law_668 : decode cL_law 668 = .ok (.iconst 0, 1) := by decide +kernel
theorem dL_law_669 : decode cL_law 669 = .ok (.ireturn, 1) := by decide +kernel
theorem dL_law_670 : decode cL_law 670 = .ok (.aload_n 1, 1) := by decide +kernel
theorem dL_law_671 : decode cL_law 671 = .ok (.aload_n 0, 1) := by decide +kernel
theorem dL_law_672 : decode cL_law 672 = .ok (.iload_n 3, 1) := by decide +kernel
theorem dL_law_673 : decode cL_law 673 = .ok (.iconst 1, 1) := by decide +kernel
theorem dL_law_674 : decode cL_law 674 = .ok (.iadd, 1) := by decide +kernel
theorem dL_law_675 : decode cL_law 675 = .ok (.iaload, 1) := by decide +kernel
theorem dL_law_676 : decode cL_law 676 = .ok (.aload_n 0, 1) := by decide +kernel
theorem dL_law_677 : decode cL_law 677 = .ok (.iload_n 3, 1) := by decide +kernel
theorem dL_law_678 : decode cL_law 678 = .ok (.iconst 2, 1) := by decide +kernel
theorem dL_law_679 : decode cL_law 679 = .ok (.iadd, 1) := by decide +kernel
theorem dL_law_680 : decode cL_law 680 = .ok (.iaload, 1) := by decide +kernel
theorem dL_law_681 : decode cL_law 681 = .ok (.aload_n 0, 1) := by decide +kernel
theorem dL_law_682 : decode cL_law 682 = .ok (.iload_n 3, 1) := by decide +kernel
theorem dL_law_683 : decode cL_law 683 = .ok (.iconst 3, 1) := by decide +kernel
theorem dL_law_684 : decode cL_law 684 = .ok (.iadd, 1) := by decide +kernel
theorem dL_law_685 : decode cL_law 685 = .ok (.iaload, 1) := by decide +kernel
theorem dL_law_686 : decode cL_law 686 = .ok (.aload_n 0, 1) := by decide +kernel
theorem dL_law_687 : decode cL_law 687 = .ok (.iload_n 3, 1) := by decide +kernel
theorem dL_law_688 : decode cL_law 688 = .ok (.iconst 4, 1) := by decide +kernel
theorem dL_law_689 : decode cL_law 689 = .ok (.iadd, 1) := by decide +kernel
theorem dL_law_690 : decode cL_law 690 = .ok (.iaload, 1) := by decide +kernel
theorem dL_law_691 : decode cL_law 691 = .ok (.aload_n 0, 1) := by decide +kernel
theorem dL_law_692 : decode cL_law 692 = .ok (.iload_n 3, 1) := by decide +kernel
theorem dL_law_693 : decode cL_law 693 = .ok (.iconst 5, 1) := by decide +kernel
theorem dL_law_694 : decode cL_law 694 = .ok (.iadd, 1) := by decide +kernel
theorem dL_law_695 : decode cL_law 695 = .ok (.iaload, 1) := by decide +kernel
theorem dL_law_696 : decode cL_law 696 = .ok (.invokevirtual 66, 3) := by decide +kernel
theorem dL_law_699 : decode cL_law 699 = .ok (.aload_n 2, 1) := by decide +kernel
theorem dL_law_700 : decode cL_law 700 = .ok (.aload_n 0, 1) := by decide +kernel
theorem dL_law_701 : decode cL_law 701 = .ok (.iload_n 3, 1) := by decide +kernel
theorem dL_law_702 : decode cL_law 702 = .ok (.iconst 1, 1) := by decide +kernel
theorem dL_law_703 : decode cL_law 703 = .ok (.iadd, 1) := by decide +kernel
theorem dL_law_704 : decode cL_law 704 = .ok (.iaload, 1) := by decide +kernel
theorem dL_law_705 : decode cL_law 705 = .ok (.aload_n 0, 1) := by decide +kernel
theorem dL_law_706 : decode cL_law 706 = .ok (.iload_n 3, 1) := by decide +kernel
theorem dL_law_707 : decode cL_law 707 = .ok (.iconst 2, 1) := by decide +kernel
theorem dL_law_708 : decode cL_law 708 = .ok (.iadd, 1) := by decide +kernel
theorem dL_law_709 : decode cL_law 709 = .ok (.iaload, 1) := by decide +kernel
theorem dL_law_710 : decode cL_law 710 = .ok (.aload_n 0, 1) := by decide +kernel
theorem dL_law_711 : decode cL_law 711 = .ok (.iload_n 3, 1) := by decide +kernel
theorem dL_law_712 : decode cL_law 712 = .ok (.iconst 3, 1) := by decide +kernel
theorem dL_law_713 : decode cL_law 713 = .ok (.iadd, 1) := by decide +kernel
theorem dL_law_714 : decode cL_law 714 = .ok (.iaload, 1) := by decide +kernel
theorem dL_law_715 : decode cL_law 715 = .ok (.aload_n 0, 1) := by decide +kernel
theorem dL_law_716 : decode cL_law 716 = .ok (.iload_n 3, 1) := by decide +kernel
theorem dL_law_717 : decode cL_law 717 = .ok (.iconst 4, 1) := by decide +kernel
theorem dL_law_718 : decode cL_law 718 = .ok (.iadd, 1) := by decide +kernel
theorem dL_law_719 : decode cL_law 719 = .ok (.iaload, 1) := by decide +kernel
theorem dL_law_720 : decode cL_law 720 = .ok (.aload_n 0, 1) := by decide +kernel
theorem dL_law_721 : decode cL_law 721 = .ok (.iload_n 3, 1) := by decide +kernel
theorem dL_law_722 : decode cL_law 722 = .ok (.iconst 5, 1) := by decide +kernel
theorem dL_law_723 : decode cL_law 723 = .ok (.iadd, 1) := by decide +kernel
theorem dL_law_724 : decode cL_law 724 = .ok (.iaload, 1) := by decide +kernel
theorem dL_law_725 : decode cL_law 725 = .ok (.invokevirtual 69, 3) := by decide +kernel
theorem dL_law_728 : decode cL_law 728 = .ok (.if_icmp .eq 526, 3) := by decide +kernel
theorem dL_law_731 : decode cL_law 731 = .ok (.iconst 0, 1) := by decide +kernel
theorem dL_law_732 : decode cL_law 732 = .ok (.ireturn, 1) := by decide +kernel
theorem dL_law_733 : decode cL_law 733 = .ok (.aload_n 1, 1) := by decide +kernel
theorem dL_law_734 : decode cL_law 734 = .ok (.aload_n 0, 1) := by decide +kernel
theorem dL_law_735 : decode cL_law 735 = .ok (.iload_n 3, 1) := by decide +kernel
theorem dL_law_736 : decode cL_law 736 = .ok (.iconst 1, 1) := by decide +kernel
theorem dL_law_737 : decode cL_law 737 = .ok (.iadd, 1) := by decide +kernel
theorem dL_law_738 : decode cL_law 738 = .ok (.iaload, 1) := by decide +kernel
theorem dL_law_739 : decode cL_law 739 = .ok (.aload_n 0, 1) := by decide +kernel
theorem dL_law_740 : decode cL_law 740 = .ok (.iload_n 3, 1) := by decide +kernel
theorem dL_law_741 : decode cL_law 741 = .ok (.iconst 2, 1) := by decide +kernel
theorem dL_law_742 : decode cL_law 742 = .ok (.iadd, 1) := by decide +kernel
theorem dL_law_743 : decode cL_law 743 = .ok (.iaload, 1) := by decide +kernel
theorem dL_law_744 : decode cL_law 744 = .ok (.aload_n 0, 1) := by decide +kernel
theorem dL_law_745 : decode cL_law 745 = .ok (.iload_n 3, 1) := by decide +kernel
theorem dL_law_746 : decode cL_law 746 = .ok (.iconst 3, 1) := by decide +kernel
theorem dL_law_747 : decode cL_law 747 = .ok (.iadd, 1) := by decide +kernel
theorem dL_law_748 : decode cL_law 748 = .ok (.iaload, 1) := by decide +kernel
theorem dL_law_749 : decode cL_law 749 = .ok (.aload_n 0, 1) := by decide +kernel
theorem dL_law_750 : decode cL_law 750 = .ok (.iload_n 3, 1) := by decide +kernel
theorem dL_law_751 : decode cL_law 751 = .ok (.iconst 4, 1) := by decide +kernel
theorem dL_law_752 : decode cL_law 752 = .ok (.iadd, 1) := by decide +kernel
theorem dL_law_753 : decode cL_law 753 = .ok (.iaload, 1) := by decide +kernel
theorem dL_law_754 : decode cL_law 754 = .ok (.aload_n 0, 1) := by decide +kernel
theorem dL_law_755 : decode cL_law 755 = .ok (.iload_n 3, 1) := by decide +kernel
theorem dL_law_756 : decode cL_law 756 = .ok (.iconst 5, 1) := by decide +kernel
theorem dL_law_757 : decode cL_law 757 = .ok (.iadd, 1) := by decide +kernel
theorem dL_law_758 : decode cL_law 758 = .ok (.iaload, 1) := by decide +kernel
theorem dL_law_759 : decode cL_law 759 = .ok (.aload_n 0, 1) := by decide +kernel
theorem dL_law_760 : decode cL_law 760 = .ok (.iload_n 3, 1) := by decide +kernel
theorem dL_law_761 : decode cL_law 761 = .ok (.bipush 6, 2) := by decide +kernel
theorem dL_law_763 : decode cL_law 763 = .ok (.iadd, 1) := by decide +kernel
theorem dL_law_764 : decode cL_law 764 = .ok (.iaload, 1) := by decide +kernel
theorem dL_law_765 : decode cL_law 765 = .ok (.ifCond .eq 7, 3) := by decide +kernel
theorem dL_law_768 : decode cL_law 768 = .ok (.iconst 1, 1) := by decide +kernel
theorem dL_law_769 : decode cL_law 769 = .ok (.goto 4, 3) := by decide +kernel
theorem dL_law_772 : decode cL_law 772 = .ok (.iconst 0, 1) := by decide +kernel
theorem dL_law_773 : decode cL_law 773 = .ok (.invokevirtual 70, 3) := by decide +kernel
theorem dL_law_776 : decode cL_law 776 = .ok (.aload_n 2, 1) := by decide +kernel
theorem dL_law_777 : decode cL_law 777 = .ok (.aload_n 0, 1) := by decide +kernel
theorem dL_law_778 : decode cL_law 778 = .ok (.iload_n 3, 1) := by decide +kernel
theorem dL_law_779 : decode cL_law 779 = .ok (.iconst 1, 1) := by decide +kernel
theorem dL_law_780 : decode cL_law 780 = .ok (.iadd, 1) := by decide +kernel
theorem dL_law_781 : decode cL_law 781 = .ok (.iaload, 1) := by decide +kernel
theorem dL_law_782 : decode cL_law 782 = .ok (.aload_n 0, 1) := by decide +kernel
theorem dL_law_783 : decode cL_law 783 = .ok (.iload_n 3, 1) := by decide +kernel
theorem dL_law_784 : decode cL_law 784 = .ok (.iconst 2, 1) := by decide +kernel
theorem dL_law_785 : decode cL_law 785 = .ok (.iadd, 1) := by decide +kernel
theorem dL_law_786 : decode cL_law 786 = .ok (.iaload, 1) := by decide +kernel
theorem dL_law_787 : decode cL_law 787 = .ok (.aload_n 0, 1) := by decide +kernel
theorem dL_law_788 : decode cL_law 788 = .ok (.iload_n 3, 1) := by decide +kernel
theorem dL_law_789 : decode cL_law 789 = .ok (.iconst 3, 1) := by decide +kernel
theorem dL_law_790 : decode cL_law 790 = .ok (.iadd, 1) := by decide +kernel
theorem dL_law_791 : decode cL_law 791 = .ok (.iaload, 1) := by decide +kernel
theorem dL_law_792 : decode cL_law 792 = .ok (.aload_n 0, 1) := by decide +kernel
theorem dL_law_793 : decode cL_law 793 = .ok (.iload_n 3, 1) := by decide +kernel
theorem dL_law_794 : decode cL_law 794 = .ok (.iconst 4, 1) := by decide +kernel
theorem dL_law_795 : decode cL_law 795 = .ok (.iadd, 1) := by decide +kernel
theorem dL_law_796 : decode cL_law 796 = .ok (.iaload, 1) := by decide +kernel
theorem dL_law_797 : decode cL_law 797 = .ok (.aload_n 0, 1) := by decide +kernel
theorem dL_law_798 : decode cL_law 798 = .ok (.iload_n 3, 1) := by decide +kernel
theorem dL_law_799 : decode cL_law 799 = .ok (.iconst 5, 1) := by decide +kernel
theorem dL_law_800 : decode cL_law 800 = .ok (.iadd, 1) := by decide +kernel
theorem dL_law_801 : decode cL_law 801 = .ok (.iaload, 1) := by decide +kernel
theorem dL_law_802 : decode cL_law 802 = .ok (.aload_n 0, 1) := by decide +kernel
theorem dL_law_803 : decode cL_law 803 = .ok (.iload_n 3, 1) := by decide +kernel
theorem dL_law_804 : decode cL_law 804 = .ok (.bipush 6, 2) := by decide +kernel
theorem dL_law_806 : decode cL_law 806 = .ok (.iadd, 1) := by decide +kernel
theorem dL_law_807 : decode cL_law 807 = .ok (.iaload, 1) := by decide +kernel
theorem dL_law_808 : decode cL_law 808 = .ok (.ifCond .eq 7, 3) := by decide +kernel
theorem dL_law_811 : decode cL_law 811 = .ok (.iconst 1, 1) := by decide +kernel
theorem dL_law_812 : decode cL_law 812 = .ok (.goto 4, 3) := by decide +kernel
theorem dL_law_815 : decode cL_law 815 = .ok (.iconst 0, 1) := by decide +kernel
theorem dL_law_816 : decode cL_law 816 = .ok (.invokevirtual 74, 3) := by decide +kernel
theorem dL_law_819 : decode cL_law 819 = .ok (.if_icmp .eq 435, 3) := by decide +kernel
theorem dL_law_822 : decode cL_law 822 = .ok (.iconst 0, 1) := by decide +kernel
theorem dL_law_823 : decode cL_law 823 = .ok (.ireturn, 1) := by decide +kernel
theorem dL_law_824 : decode cL_law 824 = .ok (.aload_n 1, 1) := by decide +kernel
theorem dL_law_825 : decode cL_law 825 = .ok (.aload_n 0, 1) := by decide +kernel
theorem dL_law_826 : decode cL_law 826 = .ok (.iload_n 3, 1) := by decide +kernel
theorem dL_law_827 : decode cL_law 827 = .ok (.iconst 1, 1) := by decide +kernel
theorem dL_law_828 : decode cL_law 828 = .ok (.iadd, 1) := by decide +kernel
theorem dL_law_829 : decode cL_law 829 = .ok (.iaload, 1) := by decide +kernel
theorem dL_law_830 : decode cL_law 830 = .ok (.aload_n 0, 1) := by decide +kernel
theorem dL_law_831 : decode cL_law 831 = .ok (.iload_n 3, 1) := by decide +kernel
theorem dL_law_832 : decode cL_law 832 = .ok (.iconst 2, 1) := by decide +kernel
theorem dL_law_833 : decode cL_law 833 = .ok (.iadd, 1) := by decide +kernel
theorem dL_law_834 : decode cL_law 834 = .ok (.iaload, 1) := by decide +kernel
theorem dL_law_835 : decode cL_law 835 = .ok (.aload_n 0, 1) := by decide +kernel
theorem dL_law_836 : decode cL_law 836 = .ok (.iload_n 3, 1) := by decide +kernel
theorem dL_law_837 : decode cL_law 837 = .ok (.iconst 3, 1) := by decide +kernel
theorem dL_law_838 : decode cL_law 838 = .ok (.iadd, 1) := by decide +kernel
theorem dL_law_839 : decode cL_law 839 = .ok (.iaload, 1) := by decide +kernel
theorem dL_law_840 : decode cL_law 840 = .ok (.aload_n 0, 1) := by decide +kernel
theorem dL_law_841 : decode cL_law 841 = .ok (.iload_n 3, 1) := by decide +kernel
theorem dL_law_842 : decode cL_law 842 = .ok (.iconst 4, 1) := by decide +kernel
theorem dL_law_843 : decode cL_law 843 = .ok (.iadd, 1) := by decide +kernel
theorem dL_law_844 : decode cL_law 844 = .ok (.iaload, 1) := by decide +kernel
theorem dL_law_845 : decode cL_law 845 = .ok (.aload_n 0, 1) := by decide +kernel
theorem dL_law_846 : decode cL_law 846 = .ok (.iload_n 3, 1) := by decide +kernel
theorem dL_law_847 : decode cL_law 847 = .ok (.iconst 5, 1) := by decide +kernel
theorem dL_law_848 : decode cL_law 848 = .ok (.iadd, 1) := by decide +kernel
theorem dL_law_849 : decode cL_law 849 = .ok (.iaload, 1) := by decide +kernel
theorem dL_law_850 : decode cL_law 850 = .ok (.invokevirtual 75, 3) := by decide +kernel
theorem dL_law_853 : decode cL_law 853 = .ok (.aload_n 2, 1) := by decide +kernel
theorem dL_law_854 : decode cL_law 854 = .ok (.aload_n 0, 1) := by decide +kernel
theorem dL_law_855 : decode cL_law 855 = .ok (.iload_n 3, 1) := by decide +kernel
theorem dL_law_856 : decode cL_law 856 = .ok (.iconst 1, 1) := by decide +kernel
theorem dL_law_857 : decode cL_law 857 = .ok (.iadd, 1) := by decide +kernel
theorem dL_law_858 : decode cL_law 858 = .ok (.iaload, 1) := by decide +kernel
theorem dL_law_859 : decode cL_law 859 = .ok (.aload_n 0, 1) := by decide +kernel
theorem dL_law_860 : decode cL_law 860 = .ok (.iload_n 3, 1) := by decide +kernel
theorem dL_law_861 : decode cL_law 861 = .ok (.iconst 2, 1) := by decide +kernel
theorem dL_law_862 : decode cL_law 862 = .ok (.iadd, 1) := by decide +kernel
theorem dL_law_863 : decode cL_law 863 = .ok (.iaload, 1) := by decide +kernel
theorem dL_law_864 : decode cL_law 864 = .ok (.aload_n 0, 1) := by decide +kernel
theorem dL_law_865 : decode cL_law 865 = .ok (.iload_n 3, 1) := by decide +kernel
theorem dL_law_866 : decode cL_law 866 = .ok (.iconst 3, 1) := by decide +kernel
theorem dL_law_867 : decode cL_law 867 = .ok (.iadd, 1) := by decide +kernel
theorem dL_law_868 : decode cL_law 868 = .ok (.iaload, 1) := by decide +kernel
theorem dL_law_869 : decode cL_law 869 = .ok (.aload_n 0, 1) := by decide +kernel
theorem dL_law_870 : decode cL_law 870 = .ok (.iload_n 3, 1) := by decide +kernel
theorem dL_law_871 : decode cL_law 871 = .ok (.iconst 4, 1) := by decide +kernel
theorem dL_law_872 : decode cL_law 872 = .ok (.iadd, 1) := by decide +kernel
theorem dL_law_873 : decode cL_law 873 = .ok (.iaload, 1) := by decide +kernel
theorem dL_law_874 : decode cL_law 874 = .ok (.aload_n 0, 1) := by decide +kernel
theorem dL_law_875 : decode cL_law 875 = .ok (.iload_n 3, 1) := by decide +kernel
theorem dL_law_876 : decode cL_law 876 = .ok (.iconst 5, 1) := by decide +kernel
theorem dL_law_877 : decode cL_law 877 = .ok (.iadd, 1) := by decide +kernel
theorem dL_law_878 : decode cL_law 878 = .ok (.iaload, 1) := by decide +kernel
theorem dL_law_879 : decode cL_law 879 = .ok (.invokevirtual 78, 3) := by decide +kernel
theorem dL_law_882 : decode cL_law 882 = .ok (.if_icmp .eq 372, 3) := by decide +kernel
theorem dL_law_885 : decode cL_law 885 = .ok (.iconst 0, 1) := by decide +kernel
theorem dL_law_886 : decode cL_law 886 = .ok (.ireturn, 1) := by decide +kernel
theorem dL_law_887 : decode cL_law 887 = .ok (.aload_n 1, 1) := by decide +kernel
theorem dL_law_888 : decode cL_law 888 = .ok (.aload_n 0, 1) := by decide +kernel
theorem dL_law_889 : decode cL_law 889 = .ok (.iload_n 3, 1) := by decide +kernel
theorem dL_law_890 : decode cL_law 890 = .ok (.iconst 1, 1) := by decide +kernel
theorem dL_law_891 : decode cL_law 891 = .ok (.iadd, 1) := by decide +kernel
theorem dL_law_892 : decode cL_law 892 = .ok (.iaload, 1) := by decide +kernel
theorem dL_law_893 : decode cL_law 893 = .ok (.aload_n 0, 1) := by decide +kernel
theorem dL_law_894 : decode cL_law 894 = .ok (.iload_n 3, 1) := by decide +kernel
theorem dL_law_895 : decode cL_law 895 = .ok (.iconst 2, 1) := by decide +kernel
theorem dL_law_896 : decode cL_law 896 = .ok (.iadd, 1) := by decide +kernel
theorem dL_law_897 : decode cL_law 897 = .ok (.iaload, 1) := by decide +kernel
theorem dL_law_898 : decode cL_law 898 = .ok (.aload_n 0, 1) := by decide +kernel
theorem dL_law_899 : decode cL_law 899 = .ok (.iload_n 3, 1) := by decide +kernel
theorem dL_law_900 : decode cL_law 900 = .ok (.iconst 3, 1) := by decide +kernel
theorem dL_law_901 : decode cL_law 901 = .ok (.iadd, 1) := by decide +kernel
theorem dL_law_902 : decode cL_law 902 = .ok (.iaload, 1) := by decide +kernel
theorem dL_law_903 : decode cL_law 903 = .ok (.aload_n 0, 1) := by decide +kernel
theorem dL_law_904 : decode cL_law 904 = .ok (.iload_n 3, 1) := by decide +kernel
theorem dL_law_905 : decode cL_law 905 = .ok (.iconst 4, 1) := by decide +kernel
theorem dL_law_906 : decode cL_law 906 = .ok (.iadd, 1) := by decide +kernel
theorem dL_law_907 : decode cL_law 907 = .ok (.iaload, 1) := by decide +kernel
theorem dL_law_908 : decode cL_law 908 = .ok (.invokevirtual 79, 3) := by decide +kernel
theorem dL_law_911 : decode cL_law 911 = .ok (.aload_n 2, 1) := by decide +kernel
theorem dL_law_912 : decode cL_law 912 = .ok (.aload_n 0, 1) := by decide +kernel
theorem dL_law_913 : decode cL_law 913 = .ok (.iload_n 3, 1) := by decide +kernel
theorem dL_law_914 : decode cL_law 914 = .ok (.iconst 1, 1) := by decide +kernel
theorem dL_law_915 : decode cL_law 915 = .ok (.iadd, 1) := by decide +kernel
theorem dL_law_916 : decode cL_law 916 = .ok (.iaload, 1) := by decide +kernel
theorem dL_law_917 : decode cL_law 917 = .ok (.aload_n 0, 1) := by decide +kernel
theorem dL_law_918 : decode cL_law 918 = .ok (.iload_n 3, 1) := by decide +kernel
theorem dL_law_919 : decode cL_law 919 = .ok (.iconst 2, 1) := by decide +kernel
theorem dL_law_920 : decode cL_law 920 = .ok (.iadd, 1) := by decide +kernel
theorem dL_law_921 : decode cL_law 921 = .ok (.iaload, 1) := by decide +kernel
theorem dL_law_922 : decode cL_law 922 = .ok (.aload_n 0, 1) := by decide +kernel
theorem dL_law_923 : decode cL_law 923 = .ok (.iload_n 3, 1) := by decide +kernel
theorem dL_law_924 : decode cL_law 924 = .ok (.iconst 3, 1) := by decide +kernel
theorem dL_law_925 : decode cL_law 925 = .ok (.iadd, 1) := by decide +kernel
theorem dL_law_926 : decode cL_law 926 = .ok (.iaload, 1) := by decide +kernel
theorem dL_law_927 : decode cL_law 927 = .ok (.aload_n 0, 1) := by decide +kernel
theorem dL_law_928 : decode cL_law 928 = .ok (.iload_n 3, 1) := by decide +kernel
theorem dL_law_929 : decode cL_law 929 = .ok (.iconst 4, 1) := by decide +kernel
theorem dL_law_930 : decode cL_law 930 = .ok (.iadd, 1) := by decide +kernel
theorem dL_law_931 : decode cL_law 931 = .ok (.iaload, 1) := by decide +kernel
theorem dL_law_932 : decode cL_law 932 = .ok (.invokevirtual 82, 3) := by decide +kernel
theorem dL_law_935 : decode cL_law 935 = .ok (.if_icmp .eq 319, 3) := by decide +kernel
theorem dL_law_938 : decode cL_law 938 = .ok (.iconst 0, 1) := by decide +kernel
theorem dL_law_939 : decode cL_law 939 = .ok (.ireturn, 1) := by decide +kernel
theorem dL_law_940 : decode cL_law 940 = .ok (.aload_n 1, 1) := by decide +kernel
theorem dL_law_941 : decode cL_law 941 = .ok (.aload_n 0, 1) := by decide +kernel
theorem dL_law_942 : decode cL_law 942 = .ok (.iload_n 3, 1) := by decide +kernel
theorem dL_law_943 : decode cL_law 943 = .ok (.iconst 1, 1) := by decide +kernel
theorem dL_law_944 : decode cL_law 944 = .ok (.iadd, 1) := by decide +kernel
theorem dL_law_945 : decode cL_law 945 = .ok (.iaload, 1) := by decide +kernel
theorem dL_law_946 : decode cL_law 946 = .ok (.aload_n 0, 1) := by decide +kernel
theorem dL_law_947 : decode cL_law 947 = .ok (.iload_n 3, 1) := by decide +kernel
theorem dL_law_948 : decode cL_law 948 = .ok (.iconst 2, 1) := by decide +kernel
theorem dL_law_949 : decode cL_law 949 = .ok (.iadd, 1) := by decide +kernel
theorem dL_law_950 : decode cL_law 950 = .ok (.iaload, 1) := by decide +kernel
theorem dL_law_951 : decode cL_law 951 = .ok (.aload_n 0, 1) := by decide +kernel
theorem dL_law_952 : decode cL_law 952 = .ok (.iload_n 3, 1) := by decide +kernel
theorem dL_law_953 : decode cL_law 953 = .ok (.iconst 3, 1) := by decide +kernel
theorem dL_law_954 : decode cL_law 954 = .ok (.iadd, 1) := by decide +kernel
theorem dL_law_955 : decode cL_law 955 = .ok (.iaload, 1) := by decide +kernel
theorem dL_law_956 : decode cL_law 956 = .ok (.invokevirtual 83, 3) := by decide +kernel
theorem dL_law_959 : decode cL_law 959 = .ok (.aload_n 2, 1) := by decide +kernel
theorem dL_law_960 : decode cL_law 960 = .ok (.aload_n 0, 1) := by decide +kernel
theorem dL_law_961 : decode cL_law 961 = .ok (.iload_n 3, 1) := by decide +kernel
theorem dL_law_962 : decode cL_law 962 = .ok (.iconst 1, 1) := by decide +kernel
theorem dL_law_963 : decode cL_law 963 = .ok (.iadd, 1) := by decide +kernel
theorem dL_law_964 : decode cL_law 964 = .ok (.iaload, 1) := by decide +kernel
theorem dL_law_965 : decode cL_law 965 = .ok (.aload_n 0, 1) := by decide +kernel
theorem dL_law_966 : decode cL_law 966 = .ok (.iload_n 3, 1) := by decide +kernel
theorem dL_law_967 : decode cL_law 967 = .ok (.iconst 2, 1) := by decide +kernel
theorem dL_law_968 : decode cL_law 968 = .ok (.iadd, 1) := by decide +kernel
theorem dL_law_969 : decode cL_law 969 = .ok (.iaload, 1) := by decide +kernel
theorem dL_law_970 : decode cL_law 970 = .ok (.aload_n 0, 1) := by decide +kernel
theorem dL_law_971 : decode cL_law 971 = .ok (.iload_n 3, 1) := by decide +kernel
theorem dL_law_972 : decode cL_law 972 = .ok (.iconst 3, 1) := by decide +kernel
theorem dL_law_973 : decode cL_law 973 = .ok (.iadd, 1) := by decide +kernel
theorem dL_law_974 : decode cL_law 974 = .ok (.iaload, 1) := by decide +kernel
theorem dL_law_975 : decode cL_law 975 = .ok (.invokevirtual 86, 3) := by decide +kernel
theorem dL_law_978 : decode cL_law 978 = .ok (.if_icmp .eq 276, 3) := by decide +kernel
theorem dL_law_981 : decode cL_law 981 = .ok (.iconst 0, 1) := by decide +kernel
theorem dL_law_982 : decode cL_law 982 = .ok (.ireturn, 1) := by decide +kernel
theorem dL_law_983 : decode cL_law 983 = .ok (.aload_n 1, 1) := by decide +kernel
theorem dL_law_984 : decode cL_law 984 = .ok (.aload_n 0, 1) := by decide +kernel
theorem dL_law_985 : decode cL_law 985 = .ok (.iload_n 3, 1) := by decide +kernel
theorem dL_law_986 : decode cL_law 986 = .ok (.iconst 1, 1) := by decide +kernel
theorem dL_law_987 : decode cL_law 987 = .ok (.iadd, 1) := by decide +kernel
theorem dL_law_988 : decode cL_law 988 = .ok (.iaload, 1) := by decide +kernel
theorem dL_law_989 : decode cL_law 989 = .ok (.aload_n 0, 1) := by decide +kernel
theorem dL_law_990 : decode cL_law 990 = .ok (.iload_n 3, 1) := by decide +kernel
theorem dL_law_991 : decode cL_law 991 = .ok (.iconst 2, 1) := by decide +kernel
theorem dL_law_992 : decode cL_law 992 = .ok (.iadd, 1) := by decide +kernel
theorem dL_law_993 : decode cL_law 993 = .ok (.iaload, 1) := by decide +kernel
theorem dL_law_994 : decode cL_law 994 = .ok (.aload_n 0, 1) := by decide +kernel
theorem dL_law_995 : decode cL_law 995 = .ok (.iload_n 3, 1) := by decide +kernel
theorem dL_law_996 : decode cL_law 996 = .ok (.iconst 3, 1) := by decide +kernel
theorem dL_law_997 : decode cL_law 997 = .ok (.iadd, 1) := by decide +kernel
theorem dL_law_998 : decode cL_law 998 = .ok (.iaload, 1) := by decide +kernel
theorem dL_law_999 : decode cL_law 999 = .ok (.aload_n 0, 1) := by decide +kernel
theorem dL_law_1000 : decode cL_law 1000 = .ok (.iload_n 3, 1) := by decide +kernel
theorem dL_law_1001 : decode cL_law 1001 = .ok (.iconst 4, 1) := by decide +kernel
theorem dL_law_1002 : decode cL_law 1002 = .ok (.iadd, 1) := by decide +kernel
theorem dL_law_1003 : decode cL_law 1003 = .ok (.iaload, 1) := by decide +kernel
theorem dL_law_1004 : decode cL_law 1004 = .ok (.invokevirtual 87, 3) := by decide +kernel
theorem dL_law_1007 : decode cL_law 1007 = .ok (.aload_n 2, 1) := by decide +kernel
theorem dL_law_1008 : decode cL_law 1008 = .ok (.aload_n 0, 1) := by decide +kernel
theorem dL_law_1009 : decode cL_law 1009 = .ok (.iload_n 3, 1) := by decide +kernel
theorem dL_law_1010 : decode cL_law 1010 = .ok (.iconst 1, 1) := by decide +kernel
theorem dL_law_1011 : decode cL_law 1011 = .ok (.iadd, 1) := by decide +kernel
theorem dL_law_1012 : decode cL_law 1012 = .ok (.iaload, 1) := by decide +kernel
theorem dL_law_1013 : decode cL_law 1013 = .ok (.aload_n 0, 1) := by decide +kernel
theorem dL_law_1014 : decode cL_law 1014 = .ok (.iload_n 3, 1) := by decide +kernel
theorem dL_law_1015 : decode cL_law 1015 = .ok (.iconst 2, 1) := by decide +kernel
theorem dL_law_1016 : decode cL_law 1016 = .ok (.iadd, 1) := by decide +kernel
theorem dL_law_1017 : decode cL_law 1017 = .ok (.iaload, 1) := by decide +kernel
theorem dL_law_1018 : decode cL_law 1018 = .ok (.aload_n 0, 1) := by decide +kernel
theorem dL_law_1019 : decode cL_law 1019 = .ok (.iload_n 3, 1) := by decide +kernel
theorem dL_law_1020 : decode cL_law 1020 = .ok (.iconst 3, 1) := by decide +kernel
theorem dL_law_1021 : decode cL_law 1021 = .ok (.iadd, 1) := by decide +kernel
theorem dL_law_1022 : decode cL_law 1022 = .ok (.iaload, 1) := by decide +kernel
theorem dL_law_1023 : decode cL_law 1023 = .ok (.aload_n 0, 1) := by decide +kernel
theorem dL_law_1024 : decode cL_law 1024 = .ok (.iload_n 3, 1) := by decide +kernel
theorem dL_law_1025 : decode cL_law 1025 = .ok (.iconst 4, 1) := by decide +kernel
theorem dL_law_1026 : decode cL_law 1026 = .ok (.iadd, 1) := by decide +kernel
theorem dL_law_1027 : decode cL_law 1027 = .ok (.iaload, 1) := by decide +kernel
theorem dL_law_1028 : decode cL_law 1028 = .ok (.invokevirtual 90, 3) := by decide +kernel
theorem dL_law_1031 : decode cL_law 1031 = .ok (.if_icmp .eq 223, 3) := by decide +kernel
theorem dL_law_1034 : decode cL_law 1034 = .ok (.iconst 0, 1) := by decide +kernel
theorem dL_law_1035 : decode cL_law 1035 = .ok (.ireturn, 1) := by decide +kernel
theorem dL_law_1036 : decode cL_law 1036 = .ok (.aload_n 1, 1) := by decide +kernel
theorem dL_law_1037 : decode cL_law 1037 = .ok (.aload_n 0, 1) := by decide +kernel
theorem dL_law_1038 : decode cL_law 1038 = .ok (.iload_n 3, 1) := by decide +kernel
theorem dL_law_1039 : decode cL_law 1039 = .ok (.iconst 1, 1) := by decide +kernel
theorem dL_law_1040 : decode cL_law 1040 = .ok (.iadd, 1) := by decide +kernel
theorem dL_law_1041 : decode cL_law 1041 = .ok (.iaload, 1) := by decide +kernel
theorem dL_law_1042 : decode cL_law 1042 = .ok (.aload_n 0, 1) := by decide +kernel
theorem dL_law_1043 : decode cL_law 1043 = .ok (.iload_n 3, 1) := by decide +kernel
theorem dL_law_1044 : decode cL_law 1044 = .ok (.iconst 2, 1) := by decide +kernel
theorem dL_law_1045 : decode cL_law 1045 = .ok (.iadd, 1) := by decide +kernel
theorem dL_law_1046 : decode cL_law 1046 = .ok (.iaload, 1) := by decide +kernel
theorem dL_law_1047 : decode cL_law 1047 = .ok (.aload_n 0, 1) := by decide +kernel
theorem dL_law_1048 : decode cL_law 1048 = .ok (.iload_n 3, 1) := by decide +kernel
theorem dL_law_1049 : decode cL_law 1049 = .ok (.iconst 3, 1) := by decide +kernel
theorem dL_law_1050 : decode cL_law 1050 = .ok (.iadd, 1) := by decide +kernel
theorem dL_law_1051 : decode cL_law 1051 = .ok (.iaload, 1) := by decide +kernel
theorem dL_law_1052 : decode cL_law 1052 = .ok (.invokevirtual 91, 3) := by decide +kernel
theorem dL_law_1055 : decode cL_law 1055 = .ok (.aload_n 2, 1) := by decide +kernel
theorem dL_law_1056 : decode cL_law 1056 = .ok (.aload_n 0, 1) := by decide +kernel
theorem dL_law_1057 : decode cL_law 1057 = .ok (.iload_n 3, 1) := by decide +kernel
theorem dL_law_1058 : decode cL_law 1058 = .ok (.iconst 1, 1) := by decide +kernel
theorem dL_law_1059 : decode cL_law 1059 = .ok (.iadd, 1) := by decide +kernel
theorem dL_law_1060 : decode cL_law 1060 = .ok (.iaload, 1) := by decide +kernel
theorem dL_law_1061 : decode cL_law 1061 = .ok (.aload_n 0, 1) := by decide +kernel
theorem dL_law_1062 : decode cL_law 1062 = .ok (.iload_n 3, 1) := by decide +kernel
theorem dL_law_1063 : decode cL_law 1063 = .ok (.iconst 2, 1) := by decide +kernel
theorem dL_law_1064 : decode cL_law 1064 = .ok (.iadd, 1) := by decide +kernel
theorem dL_law_1065 : decode cL_law 1065 = .ok (.iaload, 1) := by decide +kernel
theorem dL_law_1066 : decode cL_law 1066 = .ok (.aload_n 0, 1) := by decide +kernel
theorem dL_law_1067 : decode cL_law 1067 = .ok (.iload_n 3, 1) := by decide +kernel
theorem dL_law_1068 : decode cL_law 1068 = .ok (.iconst 3, 1) := by decide +kernel
theorem dL_law_1069 : decode cL_law 1069 = .ok (.iadd, 1) := by decide +kernel
theorem dL_law_1070 : decode cL_law 1070 = .ok (.iaload, 1) := by decide +kernel
theorem dL_law_1071 : decode cL_law 1071 = .ok (.invokevirtual 94, 3) := by decide +kernel
theorem dL_law_1074 : decode cL_law 1074 = .ok (.if_icmp .eq 180, 3) := by decide +kernel
theorem dL_law_1077 : decode cL_law 1077 = .ok (.iconst 0, 1) := by decide +kernel
theorem dL_law_1078 : decode cL_law 1078 = .ok (.ireturn, 1) := by decide +kernel
theorem dL_law_1079 : decode cL_law 1079 = .ok (.aload_n 1, 1) := by decide +kernel
theorem dL_law_1080 : decode cL_law 1080 = .ok (.aload_n 0, 1) := by decide +kernel
theorem dL_law_1081 : decode cL_law 1081 = .ok (.iload_n 3, 1) := by decide +kernel
theorem dL_law_1082 : decode cL_law 1082 = .ok (.iconst 1, 1) := by decide +kernel
theorem dL_law_1083 : decode cL_law 1083 = .ok (.iadd, 1) := by decide +kernel
theorem dL_law_1084 : decode cL_law 1084 = .ok (.iaload, 1) := by decide +kernel
theorem dL_law_1085 : decode cL_law 1085 = .ok (.aload_n 0, 1) := by decide +kernel
theorem dL_law_1086 : decode cL_law 1086 = .ok (.iload_n 3, 1) := by decide +kernel
theorem dL_law_1087 : decode cL_law 1087 = .ok (.iconst 2, 1) := by decide +kernel
theorem dL_law_1088 : decode cL_law 1088 = .ok (.iadd, 1) := by decide +kernel
theorem dL_law_1089 : decode cL_law 1089 = .ok (.iaload, 1) := by decide +kernel
theorem dL_law_1090 : decode cL_law 1090 = .ok (.aload_n 0, 1) := by decide +kernel
theorem dL_law_1091 : decode cL_law 1091 = .ok (.iload_n 3, 1) := by decide +kernel
theorem dL_law_1092 : decode cL_law 1092 = .ok (.iconst 3, 1) := by decide +kernel
theorem dL_law_1093 : decode cL_law 1093 = .ok (.iadd, 1) := by decide +kernel
theorem dL_law_1094 : decode cL_law 1094 = .ok (.iaload, 1) := by decide +kernel
theorem dL_law_1095 : decode cL_law 1095 = .ok (.invokevirtual 95, 3) := by decide +kernel
theorem dL_law_1098 : decode cL_law 1098 = .ok (.aload_n 2, 1) := by decide +kernel
theorem dL_law_1099 : decode cL_law 1099 = .ok (.aload_n 0, 1) := by decide +kernel
theorem dL_law_1100 : decode cL_law 1100 = .ok (.iload_n 3, 1) := by decide +kernel
theorem dL_law_1101 : decode cL_law 1101 = .ok (.iconst 1, 1) := by decide +kernel
theorem dL_law_1102 : decode cL_law 1102 = .ok (.iadd, 1) := by decide +kernel
theorem dL_law_1103 : decode cL_law 1103 = .ok (.iaload, 1) := by decide +kernel
theorem dL_law_1104 : decode cL_law 1104 = .ok (.aload_n 0, 1) := by decide +kernel
theorem dL_law_1105 : decode cL_law 1105 = .ok (.iload_n 3, 1) := by decide +kernel
theorem dL_law_1106 : decode cL_law 1106 = .ok (.iconst 2, 1) := by decide +kernel
theorem dL_law_1107 : decode cL_law 1107 = .ok (.iadd, 1) := by decide +kernel
theorem dL_law_1108 : decode cL_law 1108 = .ok (.iaload, 1) := by decide +kernel
theorem dL_law_1109 : decode cL_law 1109 = .ok (.aload_n 0, 1) := by decide +kernel
theorem dL_law_1110 : decode cL_law 1110 = .ok (.iload_n 3, 1) := by decide +kernel
theorem dL_law_1111 : decode cL_law 1111 = .ok (.iconst 3, 1) := by decide +kernel
theorem dL_law_1112 : decode cL_law 1112 = .ok (.iadd, 1) := by decide +kernel
theorem dL_law_1113 : decode cL_law 1113 = .ok (.iaload, 1) := by decide +kernel
theorem dL_law_1114 : decode cL_law 1114 = .ok (.invokevirtual 98, 3) := by decide +kernel
theorem dL_law_1117 : decode cL_law 1117 = .ok (.if_icmp .eq 137, 3) := by decide +kernel
theorem dL_law_1120 : decode cL_law 1120 = .ok (.iconst 0, 1) := by decide +kernel
theorem dL_law_1121 : decode cL_law 1121 = .ok (.ireturn, 1) := by decide +kernel
theorem dL_law_1122 : decode cL_law 1122 = .ok (.aload_n 1, 1) := by decide +kernel
theorem dL_law_1123 : decode cL_law 1123 = .ok (.aload_n 0, 1) := by decide +kernel
theorem dL_law_1124 : decode cL_law 1124 = .ok (.iload_n 3, 1) := by decide +kernel
theorem dL_law_1125 : decode cL_law 1125 = .ok (.iconst 1, 1) := by decide +kernel
theorem dL_law_1126 : decode cL_law 1126 = .ok (.iadd, 1) := by decide +kernel
theorem dL_law_1127 : decode cL_law 1127 = .ok (.iaload, 1) := by decide +kernel
theorem dL_law_1128 : decode cL_law 1128 = .ok (.aload_n 0, 1) := by decide +kernel
theorem dL_law_1129 : decode cL_law 1129 = .ok (.iload_n 3, 1) := by decide +kernel
theorem dL_law_1130 : decode cL_law 1130 = .ok (.iconst 2, 1) := by decide +kernel
theorem dL_law_1131 : decode cL_law 1131 = .ok (.iadd, 1) := by decide +kernel
theorem dL_law_1132 : decode cL_law 1132 = .ok (.iaload, 1) := by decide +kernel
theorem dL_law_1133 : decode cL_law 1133 = .ok (.aload_n 0, 1) := by decide +kernel
theorem dL_law_1134 : decode cL_law 1134 = .ok (.iload_n 3, 1) := by decide +kernel
theorem dL_law_1135 : decode cL_law 1135 = .ok (.iconst 3, 1) := by decide +kernel
theorem dL_law_1136 : decode cL_law 1136 = .ok (.iadd, 1) := by decide +kernel
theorem dL_law_1137 : decode cL_law 1137 = .ok (.iaload, 1) := by decide +kernel
theorem dL_law_1138 : decode cL_law 1138 = .ok (.aload_n 0, 1) := by decide +kernel
theorem dL_law_1139 : decode cL_law 1139 = .ok (.iload_n 3, 1) := by decide +kernel
theorem dL_law_1140 : decode cL_law 1140 = .ok (.iconst 4, 1) := by decide +kernel
theorem dL_law_1141 : decode cL_law 1141 = .ok (.iadd, 1) := by decide +kernel
theorem dL_law_1142 : decode cL_law 1142 = .ok (.iaload, 1) := by decide +kernel
theorem dL_law_1143 : decode cL_law 1143 = .ok (.aload_n 0, 1) := by decide +kernel
theorem dL_law_1144 : decode cL_law 1144 = .ok (.iload_n 3, 1) := by decide +kernel
theorem dL_law_1145 : decode cL_law 1145 = .ok (.iconst 5, 1) := by decide +kernel
theorem dL_law_1146 : decode cL_law 1146 = .ok (.iadd, 1) := by decide +kernel
theorem dL_law_1147 : decode cL_law 1147 = .ok (.iaload, 1) := by decide +kernel
