theorem dX0_init_0 : decode cX0_init 0 = .ok (.aload_n 0, 1) := by decide +kernel
theorem dX0_init_1 : decode cX0_init 1 = .ok (.invokespecial 5, 3) := by decide +kernel
theorem dX0_init_4 : decode cX0_init 4 = .ok (.aload_n 0, 1) := by decide +kernel
theorem dX0_init_5 : decode cX0_init 5 = .ok (.iconst 0, 1) := by decide +kernel
theorem dX0_init_6 : decode cX0_init 6 = .ok (.putfield 11, 3) := by decide +kernel
theorem dX0_init_9 : decode cX0_init 9 = .ok (.aload_n 0, 1) := by decide +kernel
theorem dX0_init_10 : decode cX0_init 10 = .ok (.iconst 0, 1) := by decide +kernel
theorem dX0_init_11 : decode cX0_init 11 = .ok (.putfield 15, 3) := by decide +kernel
theorem dX0_init_14 : decode cX0_init 14 = .ok (.aload_n 0, 1) := by decide +kernel
theorem dX0_init_15 : decode cX0_init 15 = .ok (.iconst 0, 1) := by decide +kernel
theorem dX0_init_16 : decode cX0_init 16 = .ok (.putfield 18, 3) := by decide +kernel
theorem dX0_init_19 : decode cX0_init 19 = .ok (.aload_n 0, 1) := by decide +kernel
theorem dX0_init_20 : decode cX0_init 20 = .ok (.iconst 4, 1) := by decide +kernel
theorem dX0_init_21 : decode cX0_init 21 = .ok (.newarray .int, 2) := by decide +kernel
theorem dX0_init_23 : decode cX0_init 23 = .ok (.putfield 21, 3) := by decide +kernel
theorem dX0_init_26 : decode cX0_init 26 = .ok (.aload_n 0, 1) := by decide +kernel
theorem dX0_init_27 : decode cX0_init 27 = .ok (.bipush 40, 2) := by decide +kernel
theorem dX0_init_29 : decode cX0_init 29 = .ok (.newarray .int, 2) := by decide +kernel
theorem dX0_init_31 : decode cX0_init 31 = .ok (.putfield 25, 3) := by decide +kernel
theorem dX0_init_34 : decode cX0_init 34 = .ok (.aload_n 0, 1) := by decide +kernel
theorem dX0_init_35 : decode cX0_init 35 = .ok (.bipush 40, 2) := by decide +kernel
theorem dX0_init_37 : decode cX0_init 37 = .ok (.newarray .int, 2) := by decide +kernel
theorem dX0_init_39 : decode cX0_init 39 = .ok (.putfield 28, 3) := by decide +kernel
theorem dX0_init_42 : decode cX0_init 42 = .ok (.aload_n 0, 1) := by decide +kernel
theorem dX0_init_43 : decode cX0_init 43 = .ok (.sipush 800, 3) := by decide +kernel
theorem dX0_init_46 : decode cX0_init 46 = .ok (.newarray .int, 2) := by decide +kernel
theorem dX0_init_48 : decode cX0_init 48 = .ok (.putfield 31, 3) := by decide +kernel
theorem dX0_init_51 : decode cX0_init 51 = .ok (.aload_n 0, 1) := by decide +kernel
theorem dX0_init_52 : decode cX0_init 52 = .ok (.sipush 340, 3) := by decide +kernel
theorem dX0_init_55 : decode cX0_init 55 = .ok (.newarray .int, 2) := by decide +kernel
theorem dX0_init_57 : decode cX0_init 57 = .ok (.putfield 34, 3) := by decide +kernel
theorem dX0_init_60 : decode cX0_init 60 = .ok (.aload_n 0, 1) := by decide +kernel
theorem dX0_init_61 : decode cX0_init 61 = .ok (.sipush 340, 3) := by decide +kernel
theorem dX0_init_64 : decode cX0_init 64 = .ok (.newarray .int, 2) := by decide +kernel
theorem dX0_init_66 : decode cX0_init 66 = .ok (.putfield 37, 3) := by decide +kernel
theorem dX0_init_69 : decode cX0_init 69 = .ok (.aload_n 0, 1) := by decide +kernel
theorem dX0_init_70 : decode cX0_init 70 = .ok (.sipush 340, 3) := by decide +kernel
theorem dX0_init_73 : decode cX0_init 73 = .ok (.newarray .int, 2) := by decide +kernel
theorem dX0_init_75 : decode cX0_init 75 = .ok (.putfield 40, 3) := by decide +kernel
theorem dX0_init_78 : decode cX0_init 78 = .ok (.aload_n 0, 1) := by decide +kernel
theorem dX0_init_79 : decode cX0_init 79 = .ok (.sipush 340, 3) := by decide +kernel
theorem dX0_init_82 : decode cX0_init 82 = .ok (.newarray .int, 2) := by decide +kernel
theorem dX0_init_84 : decode cX0_init 84 = .ok (.putfield 43, 3) := by decide +kernel
theorem dX0_init_87 : decode cX0_init 87 = .ok (.aload_n 0, 1) := by decide +kernel
theorem dX0_init_88 : decode cX0_init 88 = .ok (.sipush 340, 3) := by decide +kernel
theorem dX0_init_91 : decode cX0_init 91 = .ok (.newarray .long, 2) := by decide +kernel
theorem dX0_init_93 : decode cX0_init 93 = .ok (.putfield 46, 3) := by decide +kernel
theorem dX0_init_96 : decode cX0_init 96 = .ok (.return_, 1) := by decide +kernel
theorem dX0_clear_0 : decode cX0_clear 0 = .ok (.aload_n 0, 1) := by decide +kernel
theorem dX0_clear_1 : decode cX0_clear 1 = .ok (.iconst 0, 1) := by decide +kernel
theorem dX0_clear_2 : decode cX0_clear 2 = .ok (.putfield 11, 3) := by decide +kernel
theorem dX0_clear_5 : decode cX0_clear 5 = .ok (.aload_n 0, 1) := by decide +kernel
theorem dX0_clear_6 : decode cX0_clear 6 = .ok (.iconst 0, 1) := by decide +kernel
theorem dX0_clear_7 : decode cX0_clear 7 = .ok (.putfield 15, 3) := by decide +kernel
theorem dX0_clear_10 : decode cX0_clear 10 = .ok (.aload_n 0, 1) := by decide +kernel
theorem dX0_clear_11 : decode cX0_clear 11 = .ok (.iconst 0, 1) := by decide +kernel
theorem dX0_clear_12 : decode cX0_clear 12 = .ok (.putfield 18, 3) := by decide +kernel
theorem dX0_clear_15 : decode cX0_clear 15 = .ok (.iconst 0, 1) := by decide +kernel
theorem dX0_clear_16 : decode cX0_clear 16 = .ok (.istore_n 1, 1) := by decide +kernel
theorem dX0_clear_17 : decode cX0_clear 17 = .ok (.iload_n 1, 1) := by decide +kernel
theorem dX0_clear_18 : decode cX0_clear 18 = .ok (.iconst 4, 1) := by decide +kernel
theorem dX0_clear_19 : decode cX0_clear 19 = .ok (.if_icmp .ge 18, 3) := by decide +kernel
theorem dX0_clear_22 : decode cX0_clear 22 = .ok (.aload_n 0, 1) := by decide +kernel
theorem dX0_clear_23 : decode cX0_clear 23 = .ok (.getfield 21, 3) := by decide +kernel
theorem dX0_clear_26 : decode cX0_clear 26 = .ok (.iload_n 1, 1) := by decide +kernel
theorem dX0_clear_27 : decode cX0_clear 27 = .ok (.iconst 0, 1) := by decide +kernel
theorem dX0_clear_28 : decode cX0_clear 28 = .ok (.invokestatic 50, 3) := by decide +kernel
theorem dX0_clear_31 : decode cX0_clear 31 = .ok (.iinc 1 1, 3) := by decide +kernel
theorem dX0_clear_34 : decode cX0_clear 34 = .ok (.goto (-17), 3) := by decide +kernel
theorem dX0_clear_37 : decode cX0_clear 37 = .ok (.return_, 1) := by decide +kernel
theorem dX0_copyFrom_0 : decode cX0_copyFrom 0 = .ok (.aload_n 0, 1) := by decide +kernel
theorem dX0_copyFrom_1 : decode cX0_copyFrom 1 = .ok (.aload_n 1, 1) := by decide +kernel
theorem dX0_copyFrom_2 : decode cX0_copyFrom 2 = .ok (.getfield 11, 3) := by decide +kernel
theorem dX0_copyFrom_5 : decode cX0_copyFrom 5 = .ok (.putfield 11, 3) := by decide +kernel
theorem dX0_copyFrom_8 : decode cX0_copyFrom 8 = .ok (.aload_n 0, 1) := by decide +kernel
theorem dX0_copyFrom_9 : decode cX0_copyFrom 9 = .ok (.aload_n 1, 1) := by decide +kernel
theorem dX0_copyFrom_10 : decode cX0_copyFrom 10 = .ok (.getfield 15, 3) := by decide +kernel
theorem dX0_copyFrom_13 : decode cX0_copyFrom 13 = .ok (.putfield 15, 3) := by decide +kernel
theorem dX0_copyFrom_16 : decode cX0_copyFrom 16 = .ok (.aload_n 0, 1) := by decide +kernel
theorem dX0_copyFrom_17 : decode cX0_copyFrom 17 = .ok (.aload_n 1, 1) := by decide +kernel
theorem dX0_copyFrom_18 : decode cX0_copyFrom 18 = .ok (.getfield 18, 3) := by decide +kernel
theorem dX0_copyFrom_21 : decode cX0_copyFrom 21 = .ok (.putfield 18, 3) := by decide +kernel
theorem dX0_copyFrom_24 : decode cX0_copyFrom 24 = .ok (.aload_n 1, 1) := by decide +kernel
theorem dX0_copyFrom_25 : decode cX0_copyFrom 25 = .ok (.getfield 21, 3) := by decide +kernel
theorem dX0_copyFrom_28 : decode cX0_copyFrom 28 = .ok (.aload_n 0, 1) := by decide +kernel
theorem dX0_copyFrom_29 : decode cX0_copyFrom 29 = .ok (.getfield 21, 3) := by decide +kernel
theorem dX0_copyFrom_32 : decode cX0_copyFrom 32 = .ok (.invokestatic 56, 3) := by decide +kernel
theorem dX0_copyFrom_35 : decode cX0_copyFrom 35 = .ok (.aload_n 1, 1) := by decide +kernel
theorem dX0_copyFrom_36 : decode cX0_copyFrom 36 = .ok (.getfield 25, 3) := by decide +kernel
theorem dX0_copyFrom_39 : decode cX0_copyFrom 39 = .ok (.aload_n 0, 1) := by decide +kernel
theorem dX0_copyFrom_40 : decode cX0_copyFrom 40 = .ok (.getfield 25, 3) := by decide +kernel
theorem dX0_copyFrom_43 : decode cX0_copyFrom 43 = .ok (.invokestatic 56, 3) := by decide +kernel
theorem dX0_copyFrom_46 : decode cX0_copyFrom 46 = .ok (.aload_n 1, 1) := by decide +kernel
theorem dX0_copyFrom_47 : decode cX0_copyFrom 47 = .ok (.getfield 28, 3) := by decide +kernel
theorem dX0_copyFrom_50 : decode cX0_copyFrom 50 = .ok (.aload_n 0, 1) := by decide +kernel
theorem dX0_copyFrom_51 : decode cX0_copyFrom 51 = .ok (.getfield 28, 3) := by decide +kernel
theorem dX0_copyFrom_54 : decode cX0_copyFrom 54 = .ok (.invokestatic 56, 3) := by decide +kernel
theorem dX0_copyFrom_57 : decode cX0_copyFrom 57 = .ok (.aload_n 1, 1) := by decide +kernel
theorem dX0_copyFrom_58 : decode cX0_copyFrom 58 = .ok (.getfield 31, 3) := by decide +kernel
theorem dX0_copyFrom_61 : decode cX0_copyFrom 61 = .ok (.aload_n 0, 1) := by decide +kernel
theorem dX0_copyFrom_62 : decode cX0_copyFrom 62 = .ok (.getfield 31, 3) := by decide +kernel
theorem dX0_copyFrom_65 : decode cX0_copyFrom 65 = .ok (.invokestatic 56, 3) := by decide +kernel
theorem dX0_copyFrom_68 : decode cX0_copyFrom 68 = .ok (.aload_n 1, 1) := by decide +kernel
theorem dX0_copyFrom_69 : decode cX0_copyFrom 69 = .ok (.getfield 34, 3) := by decide +kernel
theorem dX0_copyFrom_72 : decode cX0_copyFrom 72 = .ok (.aload_n 0, 1) := by decide +kernel
theorem dX0_copyFrom_73 : decode cX0_copyFrom 73 = .ok (.getfield 34, 3) := by decide +kernel
theorem dX0_copyFrom_76 : decode cX0_copyFrom 76 = .ok (.invokestatic 56, 3) := by decide +kernel
theorem dX0_copyFrom_79 : decode cX0_copyFrom 79 = .ok (.aload_n 1, 1) := by decide +kernel
theorem dX0_copyFrom_80 : decode cX0_copyFrom 80 = .ok (.getfield 37, 3) := by decide +kernel
theorem dX0_copyFrom_83 : decode cX0_copyFrom 83 = .ok (.aload_n 0, 1) := by decide +kernel
theorem dX0_copyFrom_84 : decode cX0_copyFrom 84 = .ok (.getfield 37, 3) := by decide +kernel
theorem dX0_copyFrom_87 : decode cX0_copyFrom 87 = .ok (.invokestatic 56, 3) := by decide +kernel
theorem dX0_copyFrom_90 : decode cX0_copyFrom 90 = .ok (.aload_n 1, 1) := by decide +kernel
theorem dX0_copyFrom_91 : decode cX0_copyFrom 91 = .ok (.getfield 40, 3) := by decide +kernel
theorem dX0_copyFrom_94 : decode cX0_copyFrom 94 = .ok (.aload_n 0, 1) := by decide +kernel
theorem dX0_copyFrom_95 : decode cX0_copyFrom 95 = .ok (.getfield 40, 3) := by decide +kernel
theorem dX0_copyFrom_98 : decode cX0_copyFrom 98 = .ok (.invokestatic 56, 3) := by decide +kernel
theorem dX0_copyFrom_101 : decode cX0_copyFrom 101 = .ok (.aload_n 1, 1) := by decide +kernel
theorem dX0_copyFrom_102 : decode cX0_copyFrom 102 = .ok (.getfield 43, 3) := by decide +kernel
theorem dX0_copyFrom_105 : decode cX0_copyFrom 105 = .ok (.aload_n 0, 1) := by decide +kernel
theorem dX0_copyFrom_106 : decode cX0_copyFrom 106 = .ok (.getfield 43, 3) := by decide +kernel
theorem dX0_copyFrom_109 : decode cX0_copyFrom 109 = .ok (.invokestatic 56, 3) := by decide +kernel
theorem dX0_copyFrom_112 : decode cX0_copyFrom 112 = .ok (.aload_n 1, 1) := by decide +kernel
theorem dX0_copyFrom_113 : decode cX0_copyFrom 113 = .ok (.getfield 46, 3) := by decide +kernel
theorem dX0_copyFrom_116 : decode cX0_copyFrom 116 = .ok (.iconst 0, 1) := by decide +kernel
theorem dX0_copyFrom_117 : decode cX0_copyFrom 117 = .ok (.aload_n 0, 1) := by decide +kernel
theorem dX0_copyFrom_118 : decode cX0_copyFrom 118 = .ok (.getfield 46, 3) := by decide +kernel
theorem dX0_copyFrom_121 : decode cX0_copyFrom 121 = .ok (.iconst 0, 1) := by decide +kernel
theorem dX0_copyFrom_122 : decode cX0_copyFrom 122 = .ok (.aload_n 1, 1) := by decide +kernel
theorem dX0_copyFrom_123 : decode cX0_copyFrom 123 = .ok (.getfield 46, 3) := by decide +kernel
theorem dX0_copyFrom_126 : decode cX0_copyFrom 126 = .ok (.arraylength, 1) := by decide +kernel
theorem dX0_copyFrom_127 : decode cX0_copyFrom 127 = .ok (.aload_n 0, 1) := by decide +kernel
theorem dX0_copyFrom_128 : decode cX0_copyFrom 128 = .ok (.getfield 46, 3) := by decide +kernel
theorem dX0_copyFrom_131 : decode cX0_copyFrom 131 = .ok (.arraylength, 1) := by decide +kernel
theorem dX0_copyFrom_132 : decode cX0_copyFrom 132 = .ok (.invokestatic 60, 3) := by decide +kernel
theorem dX0_copyFrom_135 : decode cX0_copyFrom 135 = .ok (.invokestatic 66, 3) := by decide +kernel
theorem dX0_copyFrom_138 : decode cX0_copyFrom 138 = .ok (.return_, 1) := by decide +kernel
theorem dX0_slotOf_0 : decode cX0_slotOf 0 = .ok (.iload_n 0, 1) := by decide +kernel
theorem dX0_slotOf_1 : decode cX0_slotOf 1 = .ok (.bipush 10, 2) := by decide +kernel
theorem dX0_slotOf_3 : decode cX0_slotOf 3 = .ok (.imul, 1) := by decide +kernel
theorem dX0_slotOf_4 : decode cX0_slotOf 4 = .ok (.iload_n 1, 1) := by decide +kernel
theorem dX0_slotOf_5 : decode cX0_slotOf 5 = .ok (.iadd, 1) := by decide +kernel
theorem dX0_slotOf_6 : decode cX0_slotOf 6 = .ok (.ireturn, 1) := by decide +kernel
theorem dX0_hasDocument_0 : decode cX0_hasDocument 0 = .ok (.iload_n 1, 1) := by decide +kernel
theorem dX0_hasDocument_1 : decode cX0_hasDocument 1 = .ok (.ifCond .lt 15, 3) := by decide +kernel
theorem dX0_hasDocument_4 : decode cX0_hasDocument 4 = .ok (.iload_n 1, 1) := by decide +kernel
theorem dX0_hasDocument_5 : decode cX0_hasDocument 5 = .ok (.aload_n 0, 1) := by decide +kernel
theorem dX0_hasDocument_6 : decode cX0_hasDocument 6 = .ok (.getfield 11, 3) := by decide +kernel
theorem dX0_hasDocument_9 : decode cX0_hasDocument 9 = .ok (.if_icmp .ge 7, 3) := by decide +kernel
theorem dX0_hasDocument_12 : decode cX0_hasDocument 12 = .ok (.iconst 1, 1) := by decide +kernel
theorem dX0_hasDocument_13 : decode cX0_hasDocument 13 = .ok (.goto 4, 3) := by decide +kernel
theorem dX0_hasDocument_16 : decode cX0_hasDocument 16 = .ok (.iconst 0, 1) := by decide +kernel
theorem dX0_hasDocument_17 : decode cX0_hasDocument 17 = .ok (.ireturn, 1) := by decide +kernel
theorem dX0_hasVersion_0 : decode cX0_hasVersion 0 = .ok (.aload_n 0, 1) := by decide +kernel
theorem dX0_hasVersion_1 : decode cX0_hasVersion 1 = .ok (.iload_n 1, 1) := by decide +kernel
theorem dX0_hasVersion_2 : decode cX0_hasVersion 2 = .ok (.invokevirtual 72, 3) := by decide +kernel
theorem dX0_hasVersion_5 : decode cX0_hasVersion 5 = .ok (.ifCond .eq 20, 3) := by decide +kernel
theorem dX0_hasVersion_8 : decode cX0_hasVersion 8 = .ok (.iload_n 2, 1) := by decide +kernel
theorem dX0_hasVersion_9 : decode cX0_hasVersion 9 = .ok (.ifCond .lt 16, 3) := by decide +kernel
theorem dX0_hasVersion_12 : decode cX0_hasVersion 12 = .ok (.iload_n 2, 1) := by decide +kernel
theorem dX0_hasVersion_13 : decode cX0_hasVersion 13 = .ok (.aload_n 0, 1) := by decide +kernel
theorem dX0_hasVersion_14 : decode cX0_hasVersion 14 = .ok (.iload_n 1, 1) := by decide +kernel
theorem dX0_hasVersion_15 : decode cX0_hasVersion 15 = .ok (.invokevirtual 76, 3) := by decide +kernel
theorem dX0_hasVersion_18 : decode cX0_hasVersion 18 = .ok (.if_icmp .ge 7, 3) := by decide +kernel
theorem dX0_hasVersion_21 : decode cX0_hasVersion 21 = .ok (.iconst 1, 1) := by decide +kernel
theorem dX0_hasVersion_22 : decode cX0_hasVersion 22 = .ok (.goto 4, 3) := by decide +kernel
theorem dX0_hasVersion_25 : decode cX0_hasVersion 25 = .ok (.iconst 0, 1) := by decide +kernel
theorem dX0_hasVersion_26 : decode cX0_hasVersion 26 = .ok (.ireturn, 1) := by decide +kernel
theorem dX0_hasPlace_0 : decode cX0_hasPlace 0 = .ok (.aload_n 0, 1) := by decide +kernel
theorem dX0_hasPlace_1 : decode cX0_hasPlace 1 = .ok (.iload_n 1, 1) := by decide +kernel
theorem dX0_hasPlace_2 : decode cX0_hasPlace 2 = .ok (.iload_n 2, 1) := by decide +kernel
theorem dX0_hasPlace_3 : decode cX0_hasPlace 3 = .ok (.invokevirtual 80, 3) := by decide +kernel
theorem dX0_hasPlace_6 : decode cX0_hasPlace 6 = .ok (.ifCond .eq 21, 3) := by decide +kernel
theorem dX0_hasPlace_9 : decode cX0_hasPlace 9 = .ok (.iload_n 3, 1) := by decide +kernel
theorem dX0_hasPlace_10 : decode cX0_hasPlace 10 = .ok (.ifCond .lt 17, 3) := by decide +kernel
theorem dX0_hasPlace_13 : decode cX0_hasPlace 13 = .ok (.iload_n 3, 1) := by decide +kernel
theorem dX0_hasPlace_14 : decode cX0_hasPlace 14 = .ok (.aload_n 0, 1) := by decide +kernel
theorem dX0_hasPlace_15 : decode cX0_hasPlace 15 = .ok (.iload_n 1, 1) := by decide +kernel
theorem dX0_hasPlace_16 : decode cX0_hasPlace 16 = .ok (.iload_n 2, 1) := by decide +kernel
theorem dX0_hasPlace_17 : decode cX0_hasPlace 17 = .ok (.invokevirtual 84, 3) := by decide +kernel
theorem dX0_hasPlace_20 : decode cX0_hasPlace 20 = .ok (.if_icmp .ge 7, 3) := by decide +kernel
theorem dX0_hasPlace_23 : decode cX0_hasPlace 23 = .ok (.iconst 1, 1) := by decide +kernel
theorem dX0_hasPlace_24 : decode cX0_hasPlace 24 = .ok (.goto 4, 3) := by decide +kernel
theorem dX0_hasPlace_27 : decode cX0_hasPlace 27 = .ok (.iconst 0, 1) := by decide +kernel
theorem dX0_hasPlace_28 : decode cX0_hasPlace 28 = .ok (.ireturn, 1) := by decide +kernel
theorem dX0_hasWord_0 : decode cX0_hasWord 0 = .ok (.iload_n 1, 1) := by decide +kernel
theorem dX0_hasWord_1 : decode cX0_hasWord 1 = .ok (.ifCond .lt 15, 3) := by decide +kernel
theorem dX0_hasWord_4 : decode cX0_hasWord 4 = .ok (.iload_n 1, 1) := by decide +kernel
theorem dX0_hasWord_5 : decode cX0_hasWord 5 = .ok (.aload_n 0, 1) := by decide +kernel
theorem dX0_hasWord_6 : decode cX0_hasWord 6 = .ok (.getfield 18, 3) := by decide +kernel
theorem dX0_hasWord_9 : decode cX0_hasWord 9 = .ok (.if_icmp .ge 7, 3) := by decide +kernel
theorem dX0_hasWord_12 : decode cX0_hasWord 12 = .ok (.iconst 1, 1) := by decide +kernel
theorem dX0_hasWord_13 : decode cX0_hasWord 13 = .ok (.goto 4, 3) := by decide +kernel
theorem dX0_hasWord_16 : decode cX0_hasWord 16 = .ok (.iconst 0, 1) := by decide +kernel
theorem dX0_hasWord_17 : decode cX0_hasWord 17 = .ok (.ireturn, 1) := by decide +kernel
theorem dX0_versionsOf_0 : decode cX0_versionsOf 0 = .ok (.aload_n 0, 1) := by decide +kernel
theorem dX0_versionsOf_1 : decode cX0_versionsOf 1 = .ok (.getfield 21, 3) := by decide +kernel
theorem dX0_versionsOf_4 : decode cX0_versionsOf 4 = .ok (.iload_n 1, 1) := by decide +kernel
theorem dX0_versionsOf_5 : decode cX0_versionsOf 5 = .ok (.invokestatic 87, 3) := by decide +kernel
theorem dX0_versionsOf_8 : decode cX0_versionsOf 8 = .ok (.ireturn, 1) := by decide +kernel
theorem dX0_versionsOfAll_0 : decode cX0_versionsOfAll 0 = .ok (.iconst 0, 1) := by decide +kernel
theorem dX0_versionsOfAll_1 : decode cX0_versionsOfAll 1 = .ok (.istore_n 1, 1) := by decide +kernel
theorem dX0_versionsOfAll_2 : decode cX0_versionsOfAll 2 = .ok (.iconst 0, 1) := by decide +kernel
theorem dX0_versionsOfAll_3 : decode cX0_versionsOfAll 3 = .ok (.istore_n 2, 1) := by decide +kernel
theorem dX0_versionsOfAll_4 : decode cX0_versionsOfAll 4 = .ok (.iload_n 2, 1) := by decide +kernel
theorem dX0_versionsOfAll_5 : decode cX0_versionsOfAll 5 = .ok (.aload_n 0, 1) := by decide +kernel
theorem dX0_versionsOfAll_6 : decode cX0_versionsOfAll 6 = .ok (.getfield 11, 3) := by decide +kernel
theorem dX0_versionsOfAll_9 : decode cX0_versionsOfAll 9 = .ok (.if_icmp .ge 17, 3) := by decide +kernel
theorem dX0_versionsOfAll_12 : decode cX0_versionsOfAll 12 = .ok (.iload_n 1, 1) := by decide +kernel
theorem dX0_versionsOfAll_13 : decode cX0_versionsOfAll 13 = .ok (.aload_n 0, 1) := by decide +kernel
theorem dX0_versionsOfAll_14 : decode cX0_versionsOfAll 14 = .ok (.iload_n 2, 1) := by decide +kernel
theorem dX0_versionsOfAll_15 : decode cX0_versionsOfAll 15 = .ok (.invokevirtual 76, 3) := by decide +kernel
theorem dX0_versionsOfAll_18 : decode cX0_versionsOfAll 18 = .ok (.iadd, 1) := by decide +kernel
theorem dX0_versionsOfAll_19 : decode cX0_versionsOfAll 19 = .ok (.istore_n 1, 1) := by decide +kernel
theorem dX0_versionsOfAll_20 : decode cX0_versionsOfAll 20 = .ok (.iinc 2 1, 3) := by decide +kernel
theorem dX0_versionsOfAll_23 : decode cX0_versionsOfAll 23 = .ok (.goto (-19), 3) := by decide +kernel
theorem dX0_versionsOfAll_26 : decode cX0_versionsOfAll 26 = .ok (.iload_n 1, 1) := by decide +kernel
theorem dX0_versionsOfAll_27 : decode cX0_versionsOfAll 27 = .ok (.ireturn, 1) := by decide +kernel
theorem dX0_everyVersion_0 : decode cX0_everyVersion 0 = .ok (.iconst 1, 1) := by decide +kernel
theorem dX0_everyVersion_1 : decode cX0_everyVersion 1 = .ok (.aload_n 0, 1) := by decide +kernel
theorem dX0_everyVersion_2 : decode cX0_everyVersion 2 = .ok (.iload_n 1, 1) := by decide +kernel
theorem dX0_everyVersion_3 : decode cX0_everyVersion 3 = .ok (.invokevirtual 76, 3) := by decide +kernel
theorem dX0_everyVersion_6 : decode cX0_everyVersion 6 = .ok (.ishl, 1) := by decide +kernel
theorem dX0_everyVersion_7 : decode cX0_everyVersion 7 = .ok (.iconst 1, 1) := by decide +kernel
theorem dX0_everyVersion_8 : decode cX0_everyVersion 8 = .ok (.isub, 1) := by decide +kernel
theorem dX0_everyVersion_9 : decode cX0_everyVersion 9 = .ok (.ireturn, 1) := by decide +kernel
theorem dX0_lengthOf_0 : decode cX0_lengthOf 0 = .ok (.aload_n 0, 1) := by decide +kernel
theorem dX0_lengthOf_1 : decode cX0_lengthOf 1 = .ok (.getfield 28, 3) := by decide +kernel
theorem dX0_lengthOf_4 : decode cX0_lengthOf 4 = .ok (.iload_n 1, 1) := by decide +kernel
theorem dX0_lengthOf_5 : decode cX0_lengthOf 5 = .ok (.iload_n 2, 1) := by decide +kernel
theorem dX0_lengthOf_6 : decode cX0_lengthOf 6 = .ok (.invokestatic 91, 3) := by decide +kernel
theorem dX0_lengthOf_9 : decode cX0_lengthOf 9 = .ok (.invokestatic 87, 3) := by decide +kernel
theorem dX0_lengthOf_12 : decode cX0_lengthOf 12 = .ok (.ireturn, 1) := by decide +kernel
theorem dX0_latestLength_0 : decode cX0_latestLength 0 = .ok (.aload_n 0, 1) := by decide +kernel
theorem dX0_latestLength_1 : decode cX0_latestLength 1 = .ok (.iload_n 1, 1) := by decide +kernel
theorem dX0_latestLength_2 : decode cX0_latestLength 2 = .ok (.invokevirtual 72, 3) := by decide +kernel
theorem dX0_latestLength_5 : decode cX0_latestLength 5 = .ok (.ifCond .eq 18, 3) := by decide +kernel
theorem dX0_latestLength_8 : decode cX0_latestLength 8 = .ok (.aload_n 0, 1) := by decide +kernel
theorem dX0_latestLength_9 : decode cX0_latestLength 9 = .ok (.iload_n 1, 1) := by decide +kernel
theorem dX0_latestLength_10 : decode cX0_latestLength 10 = .ok (.aload_n 0, 1) := by decide +kernel
theorem dX0_latestLength_11 : decode cX0_latestLength 11 = .ok (.iload_n 1, 1) := by decide +kernel
theorem dX0_latestLength_12 : decode cX0_latestLength 12 = .ok (.invokevirtual 76, 3) := by decide +kernel
theorem dX0_latestLength_15 : decode cX0_latestLength 15 = .ok (.iconst 1, 1) := by decide +kernel
theorem dX0_latestLength_16 : decode cX0_latestLength 16 = .ok (.isub, 1) := by decide +kernel
theorem dX0_latestLength_17 : decode cX0_latestLength 17 = .ok (.invokevirtual 84, 3) := by decide +kernel
theorem dX0_latestLength_20 : decode cX0_latestLength 20 = .ok (.goto 4, 3) := by decide +kernel
theorem dX0_latestLength_23 : decode cX0_latestLength 23 = .ok (.iconst 0, 1) := by decide +kernel
theorem dX0_latestLength_24 : decode cX0_latestLength 24 = .ok (.ireturn, 1) := by decide +kernel
theorem dX0_dateOf_0 : decode cX0_dateOf 0 = .ok (.aload_n 0, 1) := by decide +kernel
theorem dX0_dateOf_1 : decode cX0_dateOf 1 = .ok (.getfield 25, 3) := by decide +kernel
theorem dX0_dateOf_4 : decode cX0_dateOf 4 = .ok (.iload_n 1, 1) := by decide +kernel
theorem dX0_dateOf_5 : decode cX0_dateOf 5 = .ok (.iload_n 2, 1) := by decide +kernel
theorem dX0_dateOf_6 : decode cX0_dateOf 6 = .ok (.invokestatic 91, 3) := by decide +kernel
theorem dX0_dateOf_9 : decode cX0_dateOf 9 = .ok (.invokestatic 87, 3) := by decide +kernel
theorem dX0_dateOf_12 : decode cX0_dateOf 12 = .ok (.ireturn, 1) := by decide +kernel
theorem dX0_tokenAt_0 : decode cX0_tokenAt 0 = .ok (.aload_n 0, 1) := by decide +kernel
theorem dX0_tokenAt_1 : decode cX0_tokenAt 1 = .ok (.getfield 31, 3) := by decide +kernel
theorem dX0_tokenAt_4 : decode cX0_tokenAt 4 = .ok (.iload_n 1, 1) := by decide +kernel
theorem dX0_tokenAt_5 : decode cX0_tokenAt 5 = .ok (.iload_n 2, 1) := by decide +kernel
theorem dX0_tokenAt_6 : decode cX0_tokenAt 6 = .ok (.invokestatic 91, 3) := by decide +kernel
theorem dX0_tokenAt_9 : decode cX0_tokenAt 9 = .ok (.bipush 20, 2) := by decide +kernel
theorem dX0_tokenAt_11 : decode cX0_tokenAt 11 = .ok (.imul, 1) := by decide +kernel
theorem dX0_tokenAt_12 : decode cX0_tokenAt 12 = .ok (.iload_n 3, 1) := by decide +kernel
theorem dX0_tokenAt_13 : decode cX0_tokenAt 13 = .ok (.iadd, 1) := by decide +kernel
theorem dX0_tokenAt_14 : decode cX0_tokenAt 14 = .ok (.invokestatic 87, 3) := by decide +kernel
theorem dX0_tokenAt_17 : decode cX0_tokenAt 17 = .ok (.ireturn, 1) := by decide +kernel
theorem dX0_spellingAt_0 : decode cX0_spellingAt 0 = .ok (.aload_n 0, 1) := by decide +kernel
theorem dX0_spellingAt_1 : decode cX0_spellingAt 1 = .ok (.getfield 34, 3) := by decide +kernel
theorem dX0_spellingAt_4 : decode cX0_spellingAt 4 = .ok (.aload_n 0, 1) := by decide +kernel
theorem dX0_spellingAt_5 : decode cX0_spellingAt 5 = .ok (.getfield 31, 3) := by decide +kernel
theorem dX0_spellingAt_8 : decode cX0_spellingAt 8 = .ok (.iload_n 1, 1) := by decide +kernel
theorem dX0_spellingAt_9 : decode cX0_spellingAt 9 = .ok (.iload_n 2, 1) := by decide +kernel
theorem dX0_spellingAt_10 : decode cX0_spellingAt 10 = .ok (.invokestatic 91, 3) := by decide +kernel
theorem dX0_spellingAt_13 : decode cX0_spellingAt 13 = .ok (.bipush 20, 2) := by decide +kernel
theorem dX0_spellingAt_15 : decode cX0_spellingAt 15 = .ok (.imul, 1) := by decide +kernel
theorem dX0_spellingAt_16 : decode cX0_spellingAt 16 = .ok (.iload_n 3, 1) := by decide +kernel
theorem dX0_spellingAt_17 : decode cX0_spellingAt 17 = .ok (.iadd, 1) := by decide +kernel
theorem dX0_spellingAt_18 : decode cX0_spellingAt 18 = .ok (.invokestatic 87, 3) := by decide +kernel
theorem dX0_spellingAt_21 : decode cX0_spellingAt 21 = .ok (.invokestatic 87, 3) := by decide +kernel
theorem dX0_spellingAt_24 : decode cX0_spellingAt 24 = .ok (.ireturn, 1) := by decide +kernel
theorem dX0_wordNumberAt_0 : decode cX0_wordNumberAt 0 = .ok (.aload_n 0, 1) := by decide +kernel
theorem dX0_wordNumberAt_1 : decode cX0_wordNumberAt 1 = .ok (.iload_n 1, 1) := by decide +kernel
theorem dX0_wordNumberAt_2 : decode cX0_wordNumberAt 2 = .ok (.iload_n 2, 1) := by decide +kernel
theorem dX0_wordNumberAt_3 : decode cX0_wordNumberAt 3 = .ok (.iload_n 3, 1) := by decide +kernel
theorem dX0_wordNumberAt_4 : decode cX0_wordNumberAt 4 = .ok (.invokevirtual 94, 3) := by decide +kernel
theorem dX0_wordNumberAt_7 : decode cX0_wordNumberAt 7 = .ok (.ifCond .eq 16, 3) := by decide +kernel
theorem dX0_wordNumberAt_10 : decode cX0_wordNumberAt 10 = .ok (.aload_n 0, 1) := by decide +kernel
theorem dX0_wordNumberAt_11 : decode cX0_wordNumberAt 11 = .ok (.iload_n 1, 1) := by decide +kernel
theorem dX0_wordNumberAt_12 : decode cX0_wordNumberAt 12 = .ok (.iload_n 2, 1) := by decide +kernel
theorem dX0_wordNumberAt_13 : decode cX0_wordNumberAt 13 = .ok (.iload_n 3, 1) := by decide +kernel
theorem dX0_wordNumberAt_14 : decode cX0_wordNumberAt 14 = .ok (.invokevirtual 98, 3) := by decide +kernel
theorem dX0_wordNumberAt_17 : decode cX0_wordNumberAt 17 = .ok (.invokestatic 102, 3) := by decide +kernel
theorem dX0_wordNumberAt_20 : decode cX0_wordNumberAt 20 = .ok (.goto 4, 3) := by decide +kernel
theorem dX0_wordNumberAt_23 : decode cX0_wordNumberAt 23 = .ok (.iconst (-1), 1) := by decide +kernel
theorem dX0_wordNumberAt_24 : decode cX0_wordNumberAt 24 = .ok (.ireturn, 1) := by decide +kernel
theorem dX0_stayOf_0 : decode cX0_stayOf 0 = .ok (.aload_n 0, 1) := by decide +kernel
theorem dX0_stayOf_1 : decode cX0_stayOf 1 = .ok (.getfield 40, 3) := by decide +kernel
theorem dX0_stayOf_4 : decode cX0_stayOf 4 = .ok (.iload_n 1, 1) := by decide +kernel
theorem dX0_stayOf_5 : decode cX0_stayOf 5 = .ok (.invokestatic 87, 3) := by decide +kernel
theorem dX0_stayOf_8 : decode cX0_stayOf 8 = .ok (.ireturn, 1) := by decide +kernel
theorem dX0_ownerOf_0 : decode cX0_ownerOf 0 = .ok (.aload_n 0, 1) := by decide +kernel
theorem dX0_ownerOf_1 : decode cX0_ownerOf 1 = .ok (.getfield 37, 3) := by decide +kernel
theorem dX0_ownerOf_4 : decode cX0_ownerOf 4 = .ok (.iload_n 1, 1) := by decide +kernel
theorem dX0_ownerOf_5 : decode cX0_ownerOf 5 = .ok (.invokestatic 87, 3) := by decide +kernel
theorem dX0_ownerOf_8 : decode cX0_ownerOf 8 = .ok (.ireturn, 1) := by decide +kernel
theorem dX0_tokensOf_0 : decode cX0_tokensOf 0 = .ok (.iconst 0, 1) := by decide +kernel
theorem dX0_tokensOf_1 : decode cX0_tokensOf 1 = .ok (.istore_n 2, 1) := by decide +kernel
theorem dX0_tokensOf_2 : decode cX0_tokensOf 2 = .ok (.iconst 0, 1) := by decide +kernel
theorem dX0_tokensOf_3 : decode cX0_tokensOf 3 = .ok (.istore_n 3, 1) := by decide +kernel
theorem dX0_tokensOf_4 : decode cX0_tokensOf 4 = .ok (.iload_n 3, 1) := by decide +kernel
theorem dX0_tokensOf_5 : decode cX0_tokensOf 5 = .ok (.aload_n 0, 1) := by decide +kernel
theorem dX0_tokensOf_6 : decode cX0_tokensOf 6 = .ok (.getfield 15, 3) := by decide +kernel
theorem dX0_tokensOf_9 : decode cX0_tokensOf 9 = .ok (.if_icmp .ge 26, 3) := by decide +kernel
theorem dX0_tokensOf_12 : decode cX0_tokensOf 12 = .ok (.iload_n 2, 1) := by decide +kernel
theorem dX0_tokensOf_13 : decode cX0_tokensOf 13 = .ok (.aload_n 0, 1) := by decide +kernel
theorem dX0_tokensOf_14 : decode cX0_tokensOf 14 = .ok (.iload_n 3, 1) := by decide +kernel
theorem dX0_tokensOf_15 : decode cX0_tokensOf 15 = .ok (.invokevirtual 105, 3) := by decide +kernel
theorem dX0_tokensOf_18 : decode cX0_tokensOf 18 = .ok (.iload_n 1, 1) := by decide +kernel
theorem dX0_tokensOf_19 : decode cX0_tokensOf 19 = .ok (.if_icmp .ne 7, 3) := by decide +kernel
theorem dX0_tokensOf_22 : decode cX0_tokensOf 22 = .ok (.iconst 1, 1) := by decide +kernel
theorem dX0_tokensOf_23 : decode cX0_tokensOf 23 = .ok (.goto 4, 3) := by decide +kernel
theorem dX0_tokensOf_26 : decode cX0_tokensOf 26 = .ok (.iconst 0, 1) := by decide +kernel
theorem dX0_tokensOf_27 : decode cX0_tokensOf 27 = .ok (.iadd, 1) := by decide +kernel
theorem dX0_tokensOf_28 : decode cX0_tokensOf 28 = .ok (.istore_n 2, 1) := by decide +kernel
theorem dX0_tokensOf_29 : decode cX0_tokensOf 29 = .ok (.iinc 3 1, 3) := by decide +kernel
theorem dX0_tokensOf_32 : decode cX0_tokensOf 32 = .ok (.goto (-28), 3) := by decide +kernel
theorem dX0_tokensOf_35 : decode cX0_tokensOf 35 = .ok (.iload_n 2, 1) := by decide +kernel
theorem dX0_tokensOf_36 : decode cX0_tokensOf 36 = .ok (.ireturn, 1) := by decide +kernel
theorem dX0_firstTokenOf_0 : decode cX0_firstTokenOf 0 = .ok (.iconst 0, 1) := by decide +kernel
theorem dX0_firstTokenOf_1 : decode cX0_firstTokenOf 1 = .ok (.istore_n 2, 1) := by decide +kernel
theorem dX0_firstTokenOf_2 : decode cX0_firstTokenOf 2 = .ok (.iload_n 2, 1) := by decide +kernel
theorem dX0_firstTokenOf_3 : decode cX0_firstTokenOf 3 = .ok (.aload_n 0, 1) := by decide +kernel
theorem dX0_firstTokenOf_4 : decode cX0_firstTokenOf 4 = .ok (.getfield 15, 3) := by decide +kernel
theorem dX0_firstTokenOf_7 : decode cX0_firstTokenOf 7 = .ok (.if_icmp .ge 20, 3) := by decide +kernel
theorem dX0_firstTokenOf_10 : decode cX0_firstTokenOf 10 = .ok (.aload_n 0, 1) := by decide +kernel
theorem dX0_firstTokenOf_11 : decode cX0_firstTokenOf 11 = .ok (.iload_n 2, 1) := by decide +kernel
theorem dX0_firstTokenOf_12 : decode cX0_firstTokenOf 12 = .ok (.invokevirtual 105, 3) := by decide +kernel
theorem dX0_firstTokenOf_15 : decode cX0_firstTokenOf 15 = .ok (.iload_n 1, 1) := by decide +kernel
theorem dX0_firstTokenOf_16 : decode cX0_firstTokenOf 16 = .ok (.if_icmp .ne 5, 3) := by decide +kernel
theorem dX0_firstTokenOf_19 : decode cX0_firstTokenOf 19 = .ok (.iload_n 2, 1) := by decide +kernel
theorem dX0_firstTokenOf_20 : decode cX0_firstTokenOf 20 = .ok (.ireturn, 1) := by decide +kernel
theorem dX0_firstTokenOf_21 : decode cX0_firstTokenOf 21 = .ok (.iinc 2 1, 3) := by decide +kernel
theorem dX0_firstTokenOf_24 : decode cX0_firstTokenOf 24 = .ok (.goto (-22), 3) := by decide +kernel
theorem dX0_firstTokenOf_27 : decode cX0_firstTokenOf 27 = .ok (.iconst (-1), 1) := by decide +kernel
theorem dX0_firstTokenOf_28 : decode cX0_firstTokenOf 28 = .ok (.ireturn, 1) := by decide +kernel
theorem dX0_wordAt_0 : decode cX0_wordAt 0 = .ok (.aload_n 0, 1) := by decide +kernel
theorem dX0_wordAt_1 : decode cX0_wordAt 1 = .ok (.getfield 43, 3) := by decide +kernel
theorem dX0_wordAt_4 : decode cX0_wordAt 4 = .ok (.iload_n 1, 1) := by decide +kernel
theorem dX0_wordAt_5 : decode cX0_wordAt 5 = .ok (.invokestatic 87, 3) := by decide +kernel
theorem dX0_wordAt_8 : decode cX0_wordAt 8 = .ok (.ireturn, 1) := by decide +kernel
theorem dX0_slotsOfWord_0 : decode cX0_slotsOfWord 0 = .ok (.iload_n 1, 1) := by decide +kernel
theorem dX0_slotsOfWord_1 : decode cX0_slotsOfWord 1 = .ok (.ifCond .lt 21, 3) := by decide +kernel
theorem dX0_slotsOfWord_4 : decode cX0_slotsOfWord 4 = .ok (.iload_n 1, 1) := by decide +kernel
theorem dX0_slotsOfWord_5 : decode cX0_slotsOfWord 5 = .ok (.aload_n 0, 1) := by decide +kernel
theorem dX0_slotsOfWord_6 : decode cX0_slotsOfWord 6 = .ok (.getfield 46, 3) := by decide +kernel
theorem dX0_slotsOfWord_9 : decode cX0_slotsOfWord 9 = .ok (.arraylength, 1) := by decide +kernel
theorem dX0_slotsOfWord_10 : decode cX0_slotsOfWord 10 = .ok (.if_icmp .ge 12, 3) := by decide +kernel
theorem dX0_slotsOfWord_13 : decode cX0_slotsOfWord 13 = .ok (.aload_n 0, 1) := by decide +kernel
theorem dX0_slotsOfWord_14 : decode cX0_slotsOfWord 14 = .ok (.getfield 46, 3) := by decide +kernel
theorem dX0_slotsOfWord_17 : decode cX0_slotsOfWord 17 = .ok (.iload_n 1, 1) := by decide +kernel
theorem dX0_slotsOfWord_18 : decode cX0_slotsOfWord 18 = .ok (.laload, 1) := by decide +kernel
theorem dX0_slotsOfWord_19 : decode cX0_slotsOfWord 19 = .ok (.goto 4, 3) := by decide +kernel
theorem dX0_slotsOfWord_22 : decode cX0_slotsOfWord 22 = .ok (.lconst 0, 1) := by decide +kernel
theorem dX0_slotsOfWord_23 : decode cX0_slotsOfWord 23 = .ok (.lreturn, 1) := by decide +kernel
theorem dX0_addDocument_0 : decode cX0_addDocument 0 = .ok (.aload_n 0, 1) := by decide +kernel
theorem dX0_addDocument_1 : decode cX0_addDocument 1 = .ok (.getfield 11, 3) := by decide +kernel
theorem dX0_addDocument_4 : decode cX0_addDocument 4 = .ok (.istore 4, 2) := by decide +kernel
theorem dX0_addDocument_6 : decode cX0_addDocument 6 = .ok (.iload 4, 2) := by decide +kernel
theorem dX0_addDocument_8 : decode cX0_addDocument 8 = .ok (.iconst 4, 1) := by decide +kernel
theorem dX0_addDocument_9 : decode cX0_addDocument 9 = .ok (.if_icmp .lt 4, 3) := by decide +kernel
theorem dX0_addDocument_12 : decode cX0_addDocument 12 = .ok (.return_, 1) := by decide +kernel
theorem dX0_addDocument_13 : decode cX0_addDocument 13 = .ok (.aload_n 0, 1) := by decide +kernel
theorem dX0_addDocument_14 : decode cX0_addDocument 14 = .ok (.dup, 1) := by decide +kernel
theorem dX0_addDocument_15 : decode cX0_addDocument 15 = .ok (.getfield 11, 3) := by decide +kernel
theorem dX0_addDocument_18 : decode cX0_addDocument 18 = .ok (.iconst 1, 1) := by decide +kernel
theorem dX0_addDocument_19 : decode cX0_addDocument 19 = .ok (.iadd, 1) := by decide +kernel
theorem dX0_addDocument_20 : decode cX0_addDocument 20 = .ok (.putfield 11, 3) := by decide +kernel
theorem dX0_addDocument_23 : decode cX0_addDocument 23 = .ok (.aload_n 0, 1) := by decide +kernel
theorem dX0_addDocument_24 : decode cX0_addDocument 24 = .ok (.getfield 21, 3) := by decide +kernel
theorem dX0_addDocument_27 : decode cX0_addDocument 27 = .ok (.iload 4, 2) := by decide +kernel
theorem dX0_addDocument_29 : decode cX0_addDocument 29 = .ok (.iconst 0, 1) := by decide +kernel
theorem dX0_addDocument_30 : decode cX0_addDocument 30 = .ok (.invokestatic 50, 3) := by decide +kernel
theorem dX0_addDocument_33 : decode cX0_addDocument 33 = .ok (.aload_n 0, 1) := by decide +kernel
theorem dX0_addDocument_34 : decode cX0_addDocument 34 = .ok (.iload 4, 2) := by decide +kernel
theorem dX0_addDocument_36 : decode cX0_addDocument 36 = .ok (.iconst (-1), 1) := by decide +kernel
theorem dX0_addDocument_37 : decode cX0_addDocument 37 = .ok (.invokevirtual 108, 3) := by decide +kernel
theorem dX0_addDocument_40 : decode cX0_addDocument 40 = .ok (.istore 5, 2) := by decide +kernel
theorem dX0_addDocument_42 : decode cX0_addDocument 42 = .ok (.iconst 0, 1) := by decide +kernel
theorem dX0_addDocument_43 : decode cX0_addDocument 43 = .ok (.istore 6, 2) := by decide +kernel
theorem dX0_addDocument_45 : decode cX0_addDocument 45 = .ok (.iload 6, 2) := by decide +kernel
theorem dX0_addDocument_47 : decode cX0_addDocument 47 = .ok (.iload_n 2, 1) := by decide +kernel
theorem dX0_addDocument_48 : decode cX0_addDocument 48 = .ok (.if_icmp .ge 29, 3) := by decide +kernel
theorem dX0_addDocument_51 : decode cX0_addDocument 51 = .ok (.aload_n 0, 1) := by decide +kernel
theorem dX0_addDocument_52 : decode cX0_addDocument 52 = .ok (.iload 5, 2) := by decide +kernel
theorem dX0_addDocument_54 : decode cX0_addDocument 54 = .ok (.iload 6, 2) := by decide +kernel
theorem dX0_addDocument_56 : decode cX0_addDocument 56 = .ok (.aload_n 0, 1) := by decide +kernel
theorem dX0_addDocument_57 : decode cX0_addDocument 57 = .ok (.iload 4, 2) := by decide +kernel
theorem dX0_addDocument_59 : decode cX0_addDocument 59 = .ok (.aload_n 1, 1) := by decide +kernel
theorem dX0_addDocument_60 : decode cX0_addDocument 60 = .ok (.iload 6, 2) := by decide +kernel
theorem dX0_addDocument_62 : decode cX0_addDocument 62 = .ok (.invokestatic 87, 3) := by decide +kernel
theorem dX0_addDocument_65 : decode cX0_addDocument 65 = .ok (.invokevirtual 111, 3) := by decide +kernel
theorem dX0_addDocument_68 : decode cX0_addDocument 68 = .ok (.invokevirtual 114, 3) := by decide +kernel
theorem dX0_addDocument_71 : decode cX0_addDocument 71 = .ok (.iinc 6 1, 3) := by decide +kernel
theorem dX0_addDocument_74 : decode cX0_addDocument 74 = .ok (.goto (-29), 3) := by decide +kernel
theorem dX0_addDocument_77 : decode cX0_addDocument 77 = .ok (.aload_n 0, 1) := by decide +kernel
theorem dX0_addDocument_78 : decode cX0_addDocument 78 = .ok (.iload 4, 2) := by decide +kernel
theorem dX0_addDocument_80 : decode cX0_addDocument 80 = .ok (.iload 5, 2) := by decide +kernel
theorem dX0_addDocument_82 : decode cX0_addDocument 82 = .ok (.iload_n 3, 1) := by decide +kernel
theorem dX0_addDocument_83 : decode cX0_addDocument 83 = .ok (.invokevirtual 118, 3) := by decide +kernel
theorem dX0_addDocument_86 : decode cX0_addDocument 86 = .ok (.return_, 1) := by decide +kernel
theorem dX0_putWords_0 : decode cX0_putWords 0 = .ok (.aload_n 0, 1) := by decide +kernel
theorem dX0_putWords_1 : decode cX0_putWords 1 = .ok (.iload_n 1, 1) := by decide +kernel
theorem dX0_putWords_2 : decode cX0_putWords 2 = .ok (.aload_n 0, 1) := by decide +kernel
theorem dX0_putWords_3 : decode cX0_putWords 3 = .ok (.iload_n 1, 1) := by decide +kernel
theorem dX0_putWords_4 : decode cX0_putWords 4 = .ok (.invokevirtual 76, 3) := by decide +kernel
theorem dX0_putWords_7 : decode cX0_putWords 7 = .ok (.iconst 1, 1) := by decide +kernel
theorem dX0_putWords_8 : decode cX0_putWords 8 = .ok (.isub, 1) := by decide +kernel
theorem dX0_putWords_9 : decode cX0_putWords 9 = .ok (.invokevirtual 108, 3) := by decide +kernel
theorem dX0_putWords_12 : decode cX0_putWords 12 = .ok (.istore 6, 2) := by decide +kernel
theorem dX0_putWords_14 : decode cX0_putWords 14 = .ok (.iconst 0, 1) := by decide +kernel
theorem dX0_putWords_15 : decode cX0_putWords 15 = .ok (.istore 7, 2) := by decide +kernel
theorem dX0_putWords_17 : decode cX0_putWords 17 = .ok (.iload 7, 2) := by decide +kernel
theorem dX0_putWords_19 : decode cX0_putWords 19 = .ok (.iload 4, 2) := by decide +kernel
theorem dX0_putWords_21 : decode cX0_putWords 21 = .ok (.if_icmp .ge 30, 3) := by decide +kernel
theorem dX0_putWords_24 : decode cX0_putWords 24 = .ok (.aload_n 0, 1) := by decide +kernel
theorem dX0_putWords_25 : decode cX0_putWords 25 = .ok (.iload 6, 2) := by decide +kernel
theorem dX0_putWords_27 : decode cX0_putWords 27 = .ok (.iload_n 2, 1) := by decide +kernel
theorem dX0_putWords_28 : decode cX0_putWords 28 = .ok (.iload 7, 2) := by decide +kernel
theorem dX0_putWords_30 : decode cX0_putWords 30 = .ok (.iadd, 1) := by decide +kernel
theorem dX0_putWords_31 : decode cX0_putWords 31 = .ok (.aload_n 0, 1) := by decide +kernel
theorem dX0_putWords_32 : decode cX0_putWords 32 = .ok (.iload_n 1, 1) := by decide +kernel
theorem dX0_putWords_33 : decode cX0_putWords 33 = .ok (.aload_n 3, 1) := by decide +kernel
theorem dX0_putWords_34 : decode cX0_putWords 34 = .ok (.iload 7, 2) := by decide +kernel
theorem dX0_putWords_36 : decode cX0_putWords 36 = .ok (.invokestatic 87, 3) := by decide +kernel
theorem dX0_putWords_39 : decode cX0_putWords 39 = .ok (.invokevirtual 111, 3) := by decide +kernel
theorem dX0_putWords_42 : decode cX0_putWords 42 = .ok (.invokevirtual 114, 3) := by decide +kernel
theorem dX0_putWords_45 : decode cX0_putWords 45 = .ok (.iinc 7 1, 3) := by decide +kernel
theorem dX0_putWords_48 : decode cX0_putWords 48 = .ok (.goto (-31), 3) := by decide +kernel
theorem dX0_putWords_51 : decode cX0_putWords 51 = .ok (.aload_n 0, 1) := by decide +kernel
theorem dX0_putWords_52 : decode cX0_putWords 52 = .ok (.iload_n 1, 1) := by decide +kernel
theorem dX0_putWords_53 : decode cX0_putWords 53 = .ok (.iload 6, 2) := by decide +kernel
theorem dX0_putWords_55 : decode cX0_putWords 55 = .ok (.iload 5, 2) := by decide +kernel
theorem dX0_putWords_57 : decode cX0_putWords 57 = .ok (.invokevirtual 118, 3) := by decide +kernel
theorem dX0_putWords_60 : decode cX0_putWords 60 = .ok (.return_, 1) := by decide +kernel
theorem dX0_cutWords_0 : decode cX0_cutWords 0 = .ok (.aload_n 0, 1) := by decide +kernel
theorem dX0_cutWords_1 : decode cX0_cutWords 1 = .ok (.iload_n 1, 1) := by decide +kernel
theorem dX0_cutWords_2 : decode cX0_cutWords 2 = .ok (.aload_n 0, 1) := by decide +kernel
theorem dX0_cutWords_3 : decode cX0_cutWords 3 = .ok (.iload_n 1, 1) := by decide +kernel
theorem dX0_cutWords_4 : decode cX0_cutWords 4 = .ok (.invokevirtual 76, 3) := by decide +kernel
theorem dX0_cutWords_7 : decode cX0_cutWords 7 = .ok (.iconst 1, 1) := by decide +kernel
theorem dX0_cutWords_8 : decode cX0_cutWords 8 = .ok (.isub, 1) := by decide +kernel
theorem dX0_cutWords_9 : decode cX0_cutWords 9 = .ok (.invokevirtual 108, 3) := by decide +kernel
theorem dX0_cutWords_12 : decode cX0_cutWords 12 = .ok (.istore 5, 2) := by decide +kernel
theorem dX0_cutWords_14 : decode cX0_cutWords 14 = .ok (.iconst 0, 1) := by decide +kernel
theorem dX0_cutWords_15 : decode cX0_cutWords 15 = .ok (.istore 6, 2) := by decide +kernel
theorem dX0_cutWords_17 : decode cX0_cutWords 17 = .ok (.iload 6, 2) := by decide +kernel
theorem dX0_cutWords_19 : decode cX0_cutWords 19 = .ok (.iload_n 3, 1) := by decide +kernel
theorem dX0_cutWords_20 : decode cX0_cutWords 20 = .ok (.if_icmp .ge 17, 3) := by decide +kernel
theorem dX0_cutWords_23 : decode cX0_cutWords 23 = .ok (.aload_n 0, 1) := by decide +kernel
theorem dX0_cutWords_24 : decode cX0_cutWords 24 = .ok (.iload 5, 2) := by decide +kernel
theorem dX0_cutWords_26 : decode cX0_cutWords 26 = .ok (.iload_n 2, 1) := by decide +kernel
theorem dX0_cutWords_27 : decode cX0_cutWords 27 = .ok (.invokevirtual 121, 3) := by decide +kernel
theorem dX0_cutWords_30 : decode cX0_cutWords 30 = .ok (.pop, 1) := by decide +kernel
theorem dX0_cutWords_31 : decode cX0_cutWords 31 = .ok (.iinc 6 1, 3) := by decide +kernel
theorem dX0_cutWords_34 : decode cX0_cutWords 34 = .ok (.goto (-17), 3) := by decide +kernel
theorem dX0_cutWords_37 : decode cX0_cutWords 37 = .ok (.aload_n 0, 1) := by decide +kernel
theorem dX0_cutWords_38 : decode cX0_cutWords 38 = .ok (.iload_n 1, 1) := by decide +kernel
theorem dX0_cutWords_39 : decode cX0_cutWords 39 = .ok (.iload 5, 2) := by decide +kernel
theorem dX0_cutWords_41 : decode cX0_cutWords 41 = .ok (.iload 4, 2) := by decide +kernel
theorem dX0_cutWords_43 : decode cX0_cutWords 43 = .ok (.invokevirtual 118, 3) := by decide +kernel
theorem dX0_cutWords_46 : decode cX0_cutWords 46 = .ok (.return_, 1) := by decide +kernel
theorem dX0_moveWord_0 : decode cX0_moveWord 0 = .ok (.aload_n 0, 1) := by decide +kernel
theorem dX0_moveWord_1 : decode cX0_moveWord 1 = .ok (.iload_n 1, 1) := by decide +kernel
theorem dX0_moveWord_2 : decode cX0_moveWord 2 = .ok (.aload_n 0, 1) := by decide +kernel
theorem dX0_moveWord_3 : decode cX0_moveWord 3 = .ok (.iload_n 1, 1) := by decide +kernel
theorem dX0_moveWord_4 : decode cX0_moveWord 4 = .ok (.invokevirtual 76, 3) := by decide +kernel
theorem dX0_moveWord_7 : decode cX0_moveWord 7 = .ok (.iconst 1, 1) := by decide +kernel
theorem dX0_moveWord_8 : decode cX0_moveWord 8 = .ok (.isub, 1) := by decide +kernel
theorem dX0_moveWord_9 : decode cX0_moveWord 9 = .ok (.invokevirtual 108, 3) := by decide +kernel
theorem dX0_moveWord_12 : decode cX0_moveWord 12 = .ok (.istore 5, 2) := by decide +kernel
theorem dX0_moveWord_14 : decode cX0_moveWord 14 = .ok (.aload_n 0, 1) := by decide +kernel
theorem dX0_moveWord_15 : decode cX0_moveWord 15 = .ok (.iload 5, 2) := by decide +kernel
theorem dX0_moveWord_17 : decode cX0_moveWord 17 = .ok (.iload_n 3, 1) := by decide +kernel
theorem dX0_moveWord_18 : decode cX0_moveWord 18 = .ok (.aload_n 0, 1) := by decide +kernel
theorem dX0_moveWord_19 : decode cX0_moveWord 19 = .ok (.iload 5, 2) := by decide +kernel
theorem dX0_moveWord_21 : decode cX0_moveWord 21 = .ok (.iload_n 2, 1) := by decide +kernel
theorem dX0_moveWord_22 : decode cX0_moveWord 22 = .ok (.invokevirtual 121, 3) := by decide +kernel
theorem dX0_moveWord_25 : decode cX0_moveWord 25 = .ok (.invokevirtual 114, 3) := by decide +kernel
theorem dX0_moveWord_28 : decode cX0_moveWord 28 = .ok (.aload_n 0, 1) := by decide +kernel
theorem dX0_moveWord_29 : decode cX0_moveWord 29 = .ok (.iload_n 1, 1) := by decide +kernel
theorem dX0_moveWord_30 : decode cX0_moveWord 30 = .ok (.iload 5, 2) := by decide +kernel
theorem dX0_moveWord_32 : decode cX0_moveWord 32 = .ok (.iload 4, 2) := by decide +kernel
theorem dX0_moveWord_34 : decode cX0_moveWord 34 = .ok (.invokevirtual 118, 3) := by decide +kernel
theorem dX0_moveWord_37 : decode cX0_moveWord 37 = .ok (.return_, 1) := by decide +kernel
theorem dX0_goBack_0 : decode cX0_goBack 0 = .ok (.aload_n 0, 1) := by decide +kernel
theorem dX0_goBack_1 : decode cX0_goBack 1 = .ok (.iload_n 1, 1) := by decide +kernel
theorem dX0_goBack_2 : decode cX0_goBack 2 = .ok (.iload_n 2, 1) := by decide +kernel
theorem dX0_goBack_3 : decode cX0_goBack 3 = .ok (.invokevirtual 108, 3) := by decide +kernel
theorem dX0_goBack_6 : decode cX0_goBack 6 = .ok (.istore 4, 2) := by decide +kernel
theorem dX0_goBack_8 : decode cX0_goBack 8 = .ok (.aload_n 0, 1) := by decide +kernel
theorem dX0_goBack_9 : decode cX0_goBack 9 = .ok (.iload_n 1, 1) := by decide +kernel
theorem dX0_goBack_10 : decode cX0_goBack 10 = .ok (.iload 4, 2) := by decide +kernel
theorem dX0_goBack_12 : decode cX0_goBack 12 = .ok (.iload_n 3, 1) := by decide +kernel
theorem dX0_goBack_13 : decode cX0_goBack 13 = .ok (.invokevirtual 118, 3) := by decide +kernel
theorem dX0_goBack_16 : decode cX0_goBack 16 = .ok (.return_, 1) := by decide +kernel
theorem dX0_open_0 : decode cX0_open 0 = .ok (.iload_n 1, 1) := by decide +kernel
theorem dX0_open_1 : decode cX0_open 1 = .ok (.aload_n 0, 1) := by decide +kernel
theorem dX0_open_2 : decode cX0_open 2 = .ok (.iload_n 1, 1) := by decide +kernel
theorem dX0_open_3 : decode cX0_open 3 = .ok (.invokevirtual 76, 3) := by decide +kernel
theorem dX0_open_6 : decode cX0_open 6 = .ok (.invokestatic 91, 3) := by decide +kernel
theorem dX0_open_9 : decode cX0_open 9 = .ok (.istore_n 3, 1) := by decide +kernel
theorem dX0_open_10 : decode cX0_open 10 = .ok (.iload_n 2, 1) := by decide +kernel
theorem dX0_open_11 : decode cX0_open 11 = .ok (.iconst (-1), 1) := by decide +kernel
theorem dX0_open_12 : decode cX0_open 12 = .ok (.if_icmp .ne 7, 3) := by decide +kernel
theorem dX0_open_15 : decode cX0_open 15 = .ok (.iconst 0, 1) := by decide +kernel
theorem dX0_open_16 : decode cX0_open 16 = .ok (.goto 9, 3) := by decide +kernel
theorem dX0_open_19 : decode cX0_open 19 = .ok (.aload_n 0, 1) := by decide +kernel
theorem dX0_open_20 : decode cX0_open 20 = .ok (.iload_n 1, 1) := by decide +kernel
theorem dX0_open_21 : decode cX0_open 21 = .ok (.iload_n 2, 1) := by decide +kernel
theorem dX0_open_22 : decode cX0_open 22 = .ok (.invokevirtual 84, 3) := by decide +kernel
theorem dX0_open_25 : decode cX0_open 25 = .ok (.istore 4, 2) := by decide +kernel
theorem dX0_open_27 : decode cX0_open 27 = .ok (.iconst 0, 1) := by decide +kernel
theorem dX0_open_28 : decode cX0_open 28 = .ok (.istore 5, 2) := by decide +kernel
theorem dX0_open_30 : decode cX0_open 30 = .ok (.iload 5, 2) := by decide +kernel
theorem dX0_open_32 : decode cX0_open 32 = .ok (.iload 4, 2) := by decide +kernel
theorem dX0_open_34 : decode cX0_open 34 = .ok (.if_icmp .ge 31, 3) := by decide +kernel
theorem dX0_open_37 : decode cX0_open 37 = .ok (.aload_n 0, 1) := by decide +kernel
theorem dX0_open_38 : decode cX0_open 38 = .ok (.getfield 31, 3) := by decide +kernel
theorem dX0_open_41 : decode cX0_open 41 = .ok (.iload_n 3, 1) := by decide +kernel
theorem dX0_open_42 : decode cX0_open 42 = .ok (.bipush 20, 2) := by decide +kernel
theorem dX0_open_44 : decode cX0_open 44 = .ok (.imul, 1) := by decide +kernel
theorem dX0_open_45 : decode cX0_open 45 = .ok (.iload 5, 2) := by decide +kernel
theorem dX0_open_47 : decode cX0_open 47 = .ok (.iadd, 1) := by decide +kernel
theorem dX0_open_48 : decode cX0_open 48 = .ok (.aload_n 0, 1) := by decide +kernel
theorem dX0_open_49 : decode cX0_open 49 = .ok (.iload_n 1, 1) := by decide +kernel
theorem dX0_open_50 : decode cX0_open 50 = .ok (.iload_n 2, 1) := by decide +kernel
theorem dX0_open_51 : decode cX0_open 51 = .ok (.iload 5, 2) := by decide +kernel
theorem dX0_open_53 : decode cX0_open 53 = .ok (.invokevirtual 124, 3) := by decide +kernel
theorem dX0_open_56 : decode cX0_open 56 = .ok (.invokestatic 50, 3) := by decide +kernel
theorem dX0_open_59 : decode cX0_open 59 = .ok (.iinc 5 1, 3) := by decide +kernel
theorem dX0_open_62 : decode cX0_open 62 = .ok (.goto (-32), 3) := by decide +kernel
theorem dX0_open_65 : decode cX0_open 65 = .ok (.aload_n 0, 1) := by decide +kernel
theorem dX0_open_66 : decode cX0_open 66 = .ok (.getfield 28, 3) := by decide +kernel
theorem dX0_open_69 : decode cX0_open 69 = .ok (.iload_n 3, 1) := by decide +kernel
theorem dX0_open_70 : decode cX0_open 70 = .ok (.iload 4, 2) := by decide +kernel
theorem dX0_open_72 : decode cX0_open 72 = .ok (.invokestatic 50, 3) := by decide +kernel
theorem dX0_open_75 : decode cX0_open 75 = .ok (.iload_n 3, 1) := by decide +kernel
theorem dX0_open_76 : decode cX0_open 76 = .ok (.ireturn, 1) := by decide +kernel
theorem dX0_insert_0 : decode cX0_insert 0 = .ok (.aload_n 0, 1) := by decide +kernel
theorem dX0_insert_1 : decode cX0_insert 1 = .ok (.getfield 28, 3) := by decide +kernel
theorem dX0_insert_4 : decode cX0_insert 4 = .ok (.iload_n 1, 1) := by decide +kernel
theorem dX0_insert_5 : decode cX0_insert 5 = .ok (.invokestatic 87, 3) := by decide +kernel
theorem dX0_insert_8 : decode cX0_insert 8 = .ok (.istore 4, 2) := by decide +kernel
theorem dX0_insert_10 : decode cX0_insert 10 = .ok (.iload 4, 2) := by decide +kernel
theorem dX0_insert_12 : decode cX0_insert 12 = .ok (.bipush 20, 2) := by decide +kernel
theorem dX0_insert_14 : decode cX0_insert 14 = .ok (.if_icmp .ge 13, 3) := by decide +kernel
theorem dX0_insert_17 : decode cX0_insert 17 = .ok (.iload_n 2, 1) := by decide +kernel
theorem dX0_insert_18 : decode cX0_insert 18 = .ok (.ifCond .lt 9, 3) := by decide +kernel
theorem dX0_insert_21 : decode cX0_insert 21 = .ok (.iload_n 2, 1) := by decide +kernel
theorem dX0_insert_22 : decode cX0_insert 22 = .ok (.iload 4, 2) := by decide +kernel
theorem dX0_insert_24 : decode cX0_insert 24 = .ok (.if_icmp .le 4, 3) := by decide +kernel
theorem dX0_insert_27 : decode cX0_insert 27 = .ok (.return_, 1) := by decide +kernel
theorem dX0_insert_28 : decode cX0_insert 28 = .ok (.iload 4, 2) := by decide +kernel
theorem dX0_insert_30 : decode cX0_insert 30 = .ok (.istore 5, 2) := by decide +kernel
theorem dX0_insert_32 : decode cX0_insert 32 = .ok (.iload 5, 2) := by decide +kernel
theorem dX0_insert_34 : decode cX0_insert 34 = .ok (.iload_n 2, 1) := by decide +kernel
theorem dX0_insert_35 : decode cX0_insert 35 = .ok (.if_icmp .le 39, 3) := by decide +kernel
theorem dX0_insert_38 : decode cX0_insert 38 = .ok (.aload_n 0, 1) := by decide +kernel
theorem dX0_insert_39 : decode cX0_insert 39 = .ok (.getfield 31, 3) := by decide +kernel
theorem dX0_insert_42 : decode cX0_insert 42 = .ok (.iload_n 1, 1) := by decide +kernel
theorem dX0_insert_43 : decode cX0_insert 43 = .ok (.bipush 20, 2) := by decide +kernel
theorem dX0_insert_45 : decode cX0_insert 45 = .ok (.imul, 1) := by decide +kernel
theorem dX0_insert_46 : decode cX0_insert 46 = .ok (.iload 5, 2) := by decide +kernel
theorem dX0_insert_48 : decode cX0_insert 48 = .ok (.iadd, 1) := by decide +kernel
theorem dX0_insert_49 : decode cX0_insert 49 = .ok (.aload_n 0, 1) := by decide +kernel
theorem dX0_insert_50 : decode cX0_insert 50 = .ok (.getfield 31, 3) := by decide +kernel
theorem dX0_insert_53 : decode cX0_insert 53 = .ok (.iload_n 1, 1) := by decide +kernel
theorem dX0_insert_54 : decode cX0_insert 54 = .ok (.bipush 20, 2) := by decide +kernel
theorem dX0_insert_56 : decode cX0_insert 56 = .ok (.imul, 1) := by decide +kernel
theorem dX0_insert_57 : decode cX0_insert 57 = .ok (.iload 5, 2) := by decide +kernel
theorem dX0_insert_59 : decode cX0_insert 59 = .ok (.iadd, 1) := by decide +kernel
theorem dX0_insert_60 : decode cX0_insert 60 = .ok (.iconst 1, 1) := by decide +kernel
theorem dX0_insert_61 : decode cX0_insert 61 = .ok (.isub, 1) := by decide +kernel
theorem dX0_insert_62 : decode cX0_insert 62 = .ok (.invokestatic 87, 3) := by decide +kernel
theorem dX0_insert_65 : decode cX0_insert 65 = .ok (.invokestatic 50, 3) := by decide +kernel
theorem dX0_insert_68 : decode cX0_insert 68 = .ok (.iinc 5 (-1), 3) := by decide +kernel
theorem dX0_insert_71 : decode cX0_insert 71 = .ok (.goto (-39), 3) := by decide +kernel
theorem dX0_insert_74 : decode cX0_insert 74 = .ok (.aload_n 0, 1) := by decide +kernel
theorem dX0_insert_75 : decode cX0_insert 75 = .ok (.getfield 31, 3) := by decide +kernel
theorem dX0_insert_78 : decode cX0_insert 78 = .ok (.iload_n 1, 1) := by decide +kernel
theorem dX0_insert_79 : decode cX0_insert 79 = .ok (.bipush 20, 2) := by decide +kernel
theorem dX0_insert_81 : decode cX0_insert 81 = .ok (.imul, 1) := by decide +kernel
theorem dX0_insert_82 : decode cX0_insert 82 = .ok (.iload_n 2, 1) := by decide +kernel
theorem dX0_insert_83 : decode cX0_insert 83 = .ok (.iadd, 1) := by decide +kernel
theorem dX0_insert_84 : decode cX0_insert 84 = .ok (.iload_n 3, 1) := by decide +kernel
theorem dX0_insert_85 : decode cX0_insert 85 = .ok (.invokestatic 50, 3) := by decide +kernel
theorem dX0_insert_88 : decode cX0_insert 88 = .ok (.aload_n 0, 1) := by decide +kernel
theorem dX0_insert_89 : decode cX0_insert 89 = .ok (.getfield 28, 3) := by decide +kernel
theorem dX0_insert_92 : decode cX0_insert 92 = .ok (.iload_n 1, 1) := by decide +kernel
theorem dX0_insert_93 : decode cX0_insert 93 = .ok (.iload 4, 2) := by decide +kernel
theorem dX0_insert_95 : decode cX0_insert 95 = .ok (.iconst 1, 1) := by decide +kernel
theorem dX0_insert_96 : decode cX0_insert 96 = .ok (.iadd, 1) := by decide +kernel
theorem dX0_insert_97 : decode cX0_insert 97 = .ok (.invokestatic 50, 3) := by decide +kernel
theorem dX0_insert_100 : decode cX0_insert 100 = .ok (.return_, 1) := by decide +kernel
theorem dX0_remove_0 : decode cX0_remove 0 = .ok (.aload_n 0, 1) := by decide +kernel
theorem dX0_remove_1 : decode cX0_remove 1 = .ok (.getfield 28, 3) := by decide +kernel
theorem dX0_remove_4 : decode cX0_remove 4 = .ok (.iload_n 1, 1) := by decide +kernel
theorem dX0_remove_5 : decode cX0_remove 5 = .ok (.invokestatic 87, 3) := by decide +kernel
theorem dX0_remove_8 : decode cX0_remove 8 = .ok (.istore_n 3, 1) := by decide +kernel
theorem dX0_remove_9 : decode cX0_remove 9 = .ok (.iload_n 2, 1) := by decide +kernel
theorem dX0_remove_10 : decode cX0_remove 10 = .ok (.ifCond .lt 8, 3) := by decide +kernel
theorem dX0_remove_13 : decode cX0_remove 13 = .ok (.iload_n 2, 1) := by decide +kernel
theorem dX0_remove_14 : decode cX0_remove 14 = .ok (.iload_n 3, 1) := by decide +kernel
theorem dX0_remove_15 : decode cX0_remove 15 = .ok (.if_icmp .lt 5, 3) := by decide +kernel
theorem dX0_remove_18 : decode cX0_remove 18 = .ok (.iconst 0, 1) := by decide +kernel
theorem dX0_remove_19 : decode cX0_remove 19 = .ok (.ireturn, 1) := by decide +kernel
theorem dX0_remove_20 : decode cX0_remove 20 = .ok (.aload_n 0, 1) := by decide +kernel
theorem dX0_remove_21 : decode cX0_remove 21 = .ok (.getfield 31, 3) := by decide +kernel
theorem dX0_remove_24 : decode cX0_remove 24 = .ok (.iload_n 1, 1) := by decide +kernel
theorem dX0_remove_25 : decode cX0_remove 25 = .ok (.bipush 20, 2) := by decide +kernel
theorem dX0_remove_27 : decode cX0_remove 27 = .ok (.imul, 1) := by decide +kernel
theorem dX0_remove_28 : decode cX0_remove 28 = .ok (.iload_n 2, 1) := by decide +kernel
theorem dX0_remove_29 : decode cX0_remove 29 = .ok (.iadd, 1) := by decide +kernel
theorem dX0_remove_30 : decode cX0_remove 30 = .ok (.invokestatic 87, 3) := by decide +kernel
theorem dX0_remove_33 : decode cX0_remove 33 = .ok (.istore 4, 2) := by decide +kernel
theorem dX0_remove_35 : decode cX0_remove 35 = .ok (.iload_n 2, 1) := by decide +kernel
theorem dX0_remove_36 : decode cX0_remove 36 = .ok (.istore 5, 2) := by decide +kernel
theorem dX0_remove_38 : decode cX0_remove 38 = .ok (.iload 5, 2) := by decide +kernel
theorem dX0_remove_40 : decode cX0_remove 40 = .ok (.iload_n 3, 1) := by decide +kernel
theorem dX0_remove_41 : decode cX0_remove 41 = .ok (.iconst 1, 1) := by decide +kernel
theorem dX0_remove_42 : decode cX0_remove 42 = .ok (.isub, 1) := by decide +kernel
theorem dX0_remove_43 : decode cX0_remove 43 = .ok (.if_icmp .ge 39, 3) := by decide +kernel
theorem dX0_remove_46 : decode cX0_remove 46 = .ok (.aload_n 0, 1) := by decide +kernel
theorem dX0_remove_47 : decode cX0_remove 47 = .ok (.getfield 31, 3) := by decide +kernel
theorem dX0_remove_50 : decode cX0_remove 50 = .ok (.iload_n 1, 1) := by decide +kernel
theorem dX0_remove_51 : decode cX0_remove 51 = .ok (.bipush 20, 2) := by decide +kernel
theorem dX0_remove_53 : decode cX0_remove 53 = .ok (.imul, 1) := by decide +kernel
theorem dX0_remove_54 : decode cX0_remove 54 = .ok (.iload 5, 2) := by decide +kernel
theorem dX0_remove_56 : decode cX0_remove 56 = .ok (.iadd, 1) := by decide +kernel
theorem dX0_remove_57 : decode cX0_remove 57 = .ok (.aload_n 0, 1) := by decide +kernel
theorem dX0_remove_58 : decode cX0_remove 58 = .ok (.getfield 31, 3) := by decide +kernel
theorem dX0_remove_61 : decode cX0_remove 61 = .ok (.iload_n 1, 1) := by decide +kernel
theorem dX0_remove_62 : decode cX0_remove 62 = .ok (.bipush 20, 2) := by decide +kernel
theorem dX0_remove_64 : decode cX0_remove 64 = .ok (.imul, 1) := by decide +kernel
theorem dX0_remove_65 : decode cX0_remove 65 = .ok (.iload 5, 2) := by decide +kernel
theorem dX0_remove_67 : decode cX0_remove 67 = .ok (.iadd, 1) := by decide +kernel
theorem dX0_remove_68 : decode cX0_remove 68 = .ok (.iconst 1, 1) := by decide +kernel
theorem dX0_remove_69 : decode cX0_remove 69 = .ok (.iadd, 1) := by decide +kernel
theorem dX0_remove_70 : decode cX0_remove 70 = .ok (.invokestatic 87, 3) := by decide +kernel
theorem dX0_remove_73 : decode cX0_remove 73 = .ok (.invokestatic 50, 3) := by decide +kernel
theorem dX0_remove_76 : decode cX0_remove 76 = .ok (.iinc 5 1, 3) := by decide +kernel
theorem dX0_remove_79 : decode cX0_remove 79 = .ok (.goto (-41), 3) := by decide +kernel
theorem dX0_remove_82 : decode cX0_remove 82 = .ok (.aload_n 0, 1) := by decide +kernel
theorem dX0_remove_83 : decode cX0_remove 83 = .ok (.getfield 28, 3) := by decide +kernel
theorem dX0_remove_86 : decode cX0_remove 86 = .ok (.iload_n 1, 1) := by decide +kernel
theorem dX0_remove_87 : decode cX0_remove 87 = .ok (.iload_n 3, 1) := by decide +kernel
theorem dX0_remove_88 : decode cX0_remove 88 = .ok (.iconst 1, 1) := by decide +kernel
theorem dX0_remove_89 : decode cX0_remove 89 = .ok (.isub, 1) := by decide +kernel
theorem dX0_remove_90 : decode cX0_remove 90 = .ok (.invokestatic 50, 3) := by decide +kernel
theorem dX0_remove_93 : decode cX0_remove 93 = .ok (.iload 4, 2) := by decide +kernel
theorem dX0_remove_95 : decode cX0_remove 95 = .ok (.ireturn, 1) := by decide +kernel
theorem dX0_newToken_0 : decode cX0_newToken 0 = .ok (.aload_n 0, 1) := by decide +kernel
theorem dX0_newToken_1 : decode cX0_newToken 1 = .ok (.getfield 15, 3) := by decide +kernel
theorem dX0_newToken_4 : decode cX0_newToken 4 = .ok (.istore_n 3, 1) := by decide +kernel
theorem dX0_newToken_5 : decode cX0_newToken 5 = .ok (.iload_n 3, 1) := by decide +kernel
theorem dX0_newToken_6 : decode cX0_newToken 6 = .ok (.sipush 340, 3) := by decide +kernel
theorem dX0_newToken_9 : decode cX0_newToken 9 = .ok (.if_icmp .lt 5, 3) := by decide +kernel
theorem dX0_newToken_12 : decode cX0_newToken 12 = .ok (.iconst 0, 1) := by decide +kernel
theorem dX0_newToken_13 : decode cX0_newToken 13 = .ok (.ireturn, 1) := by decide +kernel
theorem dX0_newToken_14 : decode cX0_newToken 14 = .ok (.aload_n 0, 1) := by decide +kernel
theorem dX0_newToken_15 : decode cX0_newToken 15 = .ok (.getfield 34, 3) := by decide +kernel
theorem dX0_newToken_18 : decode cX0_newToken 18 = .ok (.iload_n 3, 1) := by decide +kernel
theorem dX0_newToken_19 : decode cX0_newToken 19 = .ok (.iload_n 2, 1) := by decide +kernel
theorem dX0_newToken_20 : decode cX0_newToken 20 = .ok (.invokestatic 50, 3) := by decide +kernel
theorem dX0_newToken_23 : decode cX0_newToken 23 = .ok (.aload_n 0, 1) := by decide +kernel
theorem dX0_newToken_24 : decode cX0_newToken 24 = .ok (.getfield 37, 3) := by decide +kernel
theorem dX0_newToken_27 : decode cX0_newToken 27 = .ok (.iload_n 3, 1) := by decide +kernel
theorem dX0_newToken_28 : decode cX0_newToken 28 = .ok (.iload_n 1, 1) := by decide +kernel
theorem dX0_newToken_29 : decode cX0_newToken 29 = .ok (.invokestatic 50, 3) := by decide +kernel
theorem dX0_newToken_32 : decode cX0_newToken 32 = .ok (.aload_n 0, 1) := by decide +kernel
theorem dX0_newToken_33 : decode cX0_newToken 33 = .ok (.getfield 40, 3) := by decide +kernel
theorem dX0_newToken_36 : decode cX0_newToken 36 = .ok (.iload_n 3, 1) := by decide +kernel
theorem dX0_newToken_37 : decode cX0_newToken 37 = .ok (.iconst 0, 1) := by decide +kernel
theorem dX0_newToken_38 : decode cX0_newToken 38 = .ok (.invokestatic 50, 3) := by decide +kernel
theorem dX0_newToken_41 : decode cX0_newToken 41 = .ok (.aload_n 0, 1) := by decide +kernel
theorem dX0_newToken_42 : decode cX0_newToken 42 = .ok (.dup, 1) := by decide +kernel
theorem dX0_newToken_43 : decode cX0_newToken 43 = .ok (.getfield 15, 3) := by decide +kernel
theorem dX0_newToken_46 : decode cX0_newToken 46 = .ok (.iconst 1, 1) := by decide +kernel
theorem dX0_newToken_47 : decode cX0_newToken 47 = .ok (.iadd, 1) := by decide +kernel
theorem dX0_newToken_48 : decode cX0_newToken 48 = .ok (.putfield 15, 3) := by decide +kernel
theorem dX0_newToken_51 : decode cX0_newToken 51 = .ok (.iload_n 3, 1) := by decide +kernel
theorem dX0_newToken_52 : decode cX0_newToken 52 = .ok (.ireturn, 1) := by decide +kernel
theorem dX0_close_0 : decode cX0_close 0 = .ok (.aload_n 0, 1) := by decide +kernel
theorem dX0_close_1 : decode cX0_close 1 = .ok (.iload_n 1, 1) := by decide +kernel
theorem dX0_close_2 : decode cX0_close 2 = .ok (.invokevirtual 76, 3) := by decide +kernel
theorem dX0_close_5 : decode cX0_close 5 = .ok (.istore 4, 2) := by decide +kernel
theorem dX0_close_7 : decode cX0_close 7 = .ok (.iconst 0, 1) := by decide +kernel
theorem dX0_close_8 : decode cX0_close 8 = .ok (.istore 5, 2) := by decide +kernel
theorem dX0_close_10 : decode cX0_close 10 = .ok (.iload 5, 2) := by decide +kernel
theorem dX0_close_12 : decode cX0_close 12 = .ok (.aload_n 0, 1) := by decide +kernel
theorem dX0_close_13 : decode cX0_close 13 = .ok (.getfield 28, 3) := by decide +kernel
theorem dX0_close_16 : decode cX0_close 16 = .ok (.iload_n 2, 1) := by decide +kernel
theorem dX0_close_17 : decode cX0_close 17 = .ok (.invokestatic 87, 3) := by decide +kernel
theorem dX0_close_20 : decode cX0_close 20 = .ok (.if_icmp .ge 48, 3) := by decide +kernel
theorem dX0_close_23 : decode cX0_close 23 = .ok (.aload_n 0, 1) := by decide +kernel
theorem dX0_close_24 : decode cX0_close 24 = .ok (.getfield 31, 3) := by decide +kernel
theorem dX0_close_27 : decode cX0_close 27 = .ok (.iload_n 2, 1) := by decide +kernel
theorem dX0_close_28 : decode cX0_close 28 = .ok (.bipush 20, 2) := by decide +kernel
theorem dX0_close_30 : decode cX0_close 30 = .ok (.imul, 1) := by decide +kernel
theorem dX0_close_31 : decode cX0_close 31 = .ok (.iload 5, 2) := by decide +kernel
theorem dX0_close_33 : decode cX0_close 33 = .ok (.iadd, 1) := by decide +kernel
theorem dX0_close_34 : decode cX0_close 34 = .ok (.invokestatic 87, 3) := by decide +kernel
theorem dX0_close_37 : decode cX0_close 37 = .ok (.istore 6, 2) := by decide +kernel
theorem dX0_close_39 : decode cX0_close 39 = .ok (.aload_n 0, 1) := by decide +kernel
theorem dX0_close_40 : decode cX0_close 40 = .ok (.getfield 40, 3) := by decide +kernel
theorem dX0_close_43 : decode cX0_close 43 = .ok (.iload 6, 2) := by decide +kernel
theorem dX0_close_45 : decode cX0_close 45 = .ok (.aload_n 0, 1) := by decide +kernel
theorem dX0_close_46 : decode cX0_close 46 = .ok (.getfield 40, 3) := by decide +kernel
theorem dX0_close_49 : decode cX0_close 49 = .ok (.iload 6, 2) := by decide +kernel
theorem dX0_close_51 : decode cX0_close 51 = .ok (.invokestatic 87, 3) := by decide +kernel
theorem dX0_close_54 : decode cX0_close 54 = .ok (.iconst 1, 1) := by decide +kernel
theorem dX0_close_55 : decode cX0_close 55 = .ok (.iload 4, 2) := by decide +kernel
theorem dX0_close_57 : decode cX0_close 57 = .ok (.ishl, 1) := by decide +kernel
theorem dX0_close_58 : decode cX0_close 58 = .ok (.ior, 1) := by decide +kernel
theorem dX0_close_59 : decode cX0_close 59 = .ok (.invokestatic 50, 3) := by decide +kernel
theorem dX0_close_62 : decode cX0_close 62 = .ok (.iinc 5 1, 3) := by decide +kernel
theorem dX0_close_65 : decode cX0_close 65 = .ok (.goto (-55), 3) := by decide +kernel
theorem dX0_close_68 : decode cX0_close 68 = .ok (.aload_n 0, 1) := by decide +kernel
theorem dX0_close_69 : decode cX0_close 69 = .ok (.getfield 25, 3) := by decide +kernel
theorem dX0_close_72 : decode cX0_close 72 = .ok (.iload_n 2, 1) := by decide +kernel
theorem dX0_close_73 : decode cX0_close 73 = .ok (.iload_n 3, 1) := by decide +kernel
theorem dX0_close_74 : decode cX0_close 74 = .ok (.invokestatic 50, 3) := by decide +kernel
theorem dX0_close_77 : decode cX0_close 77 = .ok (.aload_n 0, 1) := by decide +kernel
theorem dX0_close_78 : decode cX0_close 78 = .ok (.getfield 21, 3) := by decide +kernel
theorem dX0_close_81 : decode cX0_close 81 = .ok (.iload_n 1, 1) := by decide +kernel
theorem dX0_close_82 : decode cX0_close 82 = .ok (.iload 4, 2) := by decide +kernel
theorem dX0_close_84 : decode cX0_close 84 = .ok (.iconst 1, 1) := by decide +kernel
theorem dX0_close_85 : decode cX0_close 85 = .ok (.iadd, 1) := by decide +kernel
theorem dX0_close_86 : decode cX0_close 86 = .ok (.invokestatic 50, 3) := by decide +kernel
theorem dX0_close_89 : decode cX0_close 89 = .ok (.return_, 1) := by decide +kernel
theorem dX0_listWords_0 : decode cX0_listWords 0 = .ok (.aload_n 0, 1) := by decide +kernel
theorem dX0_listWords_1 : decode cX0_listWords 1 = .ok (.iconst 0, 1) := by decide +kernel
theorem dX0_listWords_2 : decode cX0_listWords 2 = .ok (.putfield 18, 3) := by decide +kernel
theorem dX0_listWords_5 : decode cX0_listWords 5 = .ok (.iconst 0, 1) := by decide +kernel
theorem dX0_listWords_6 : decode cX0_listWords 6 = .ok (.istore_n 1, 1) := by decide +kernel
theorem dX0_listWords_7 : decode cX0_listWords 7 = .ok (.iload_n 1, 1) := by decide +kernel
theorem dX0_listWords_8 : decode cX0_listWords 8 = .ok (.aload_n 0, 1) := by decide +kernel
theorem dX0_listWords_9 : decode cX0_listWords 9 = .ok (.getfield 15, 3) := by decide +kernel
theorem dX0_listWords_12 : decode cX0_listWords 12 = .ok (.if_icmp .ge 81, 3) := by decide +kernel
theorem dX0_listWords_15 : decode cX0_listWords 15 = .ok (.aload_n 0, 1) := by decide +kernel
theorem dX0_listWords_16 : decode cX0_listWords 16 = .ok (.getfield 34, 3) := by decide +kernel
theorem dX0_listWords_19 : decode cX0_listWords 19 = .ok (.iload_n 1, 1) := by decide +kernel
theorem dX0_listWords_20 : decode cX0_listWords 20 = .ok (.invokestatic 87, 3) := by decide +kernel
theorem dX0_listWords_23 : decode cX0_listWords 23 = .ok (.istore_n 2, 1) := by decide +kernel
theorem dX0_listWords_24 : decode cX0_listWords 24 = .ok (.aload_n 0, 1) := by decide +kernel
theorem dX0_listWords_25 : decode cX0_listWords 25 = .ok (.iload_n 2, 1) := by decide +kernel
theorem dX0_listWords_26 : decode cX0_listWords 26 = .ok (.invokevirtual 127, 3) := by decide +kernel
theorem dX0_listWords_29 : decode cX0_listWords 29 = .ok (.istore_n 3, 1) := by decide +kernel
theorem dX0_listWords_30 : decode cX0_listWords 30 = .ok (.iload_n 3, 1) := by decide +kernel
theorem dX0_listWords_31 : decode cX0_listWords 31 = .ok (.aload_n 0, 1) := by decide +kernel
theorem dX0_listWords_32 : decode cX0_listWords 32 = .ok (.getfield 18, 3) := by decide +kernel
theorem dX0_listWords_35 : decode cX0_listWords 35 = .ok (.if_icmp .ge 12, 3) := by decide +kernel
theorem dX0_listWords_38 : decode cX0_listWords 38 = .ok (.aload_n 0, 1) := by decide +kernel
theorem dX0_listWords_39 : decode cX0_listWords 39 = .ok (.iload_n 3, 1) := by decide +kernel
theorem dX0_listWords_40 : decode cX0_listWords 40 = .ok (.invokevirtual 130, 3) := by decide +kernel
theorem dX0_listWords_43 : decode cX0_listWords 43 = .ok (.iload_n 2, 1) := by decide +kernel
theorem dX0_listWords_44 : decode cX0_listWords 44 = .ok (.if_icmp .eq 9, 3) := by decide +kernel
theorem dX0_listWords_47 : decode cX0_listWords 47 = .ok (.aload_n 0, 1) := by decide +kernel
theorem dX0_listWords_48 : decode cX0_listWords 48 = .ok (.iload_n 3, 1) := by decide +kernel
theorem dX0_listWords_49 : decode cX0_listWords 49 = .ok (.iload_n 2, 1) := by decide +kernel
theorem dX0_listWords_50 : decode cX0_listWords 50 = .ok (.invokevirtual 133, 3) := by decide +kernel
theorem dX0_listWords_53 : decode cX0_listWords 53 = .ok (.iload_n 3, 1) := by decide +kernel
theorem dX0_listWords_54 : decode cX0_listWords 54 = .ok (.aload_n 0, 1) := by decide +kernel
theorem dX0_listWords_55 : decode cX0_listWords 55 = .ok (.getfield 46, 3) := by decide +kernel
theorem dX0_listWords_58 : decode cX0_listWords 58 = .ok (.arraylength, 1) := by decide +kernel
theorem dX0_listWords_59 : decode cX0_listWords 59 = .ok (.if_icmp .ge 28, 3) := by decide +kernel
theorem dX0_listWords_62 : decode cX0_listWords 62 = .ok (.aload_n 0, 1) := by decide +kernel
theorem dX0_listWords_63 : decode cX0_listWords 63 = .ok (.getfield 46, 3) := by decide +kernel
theorem dX0_listWords_66 : decode cX0_listWords 66 = .ok (.iload_n 3, 1) := by decide +kernel
theorem dX0_listWords_67 : decode cX0_listWords 67 = .ok (.dup2, 1) := by decide +kernel
theorem dX0_listWords_68 : decode cX0_listWords 68 = .ok (.laload, 1) := by decide +kernel
theorem dX0_listWords_69 : decode cX0_listWords 69 = .ok (.aload_n 0, 1) := by decide +kernel
theorem dX0_listWords_70 : decode cX0_listWords 70 = .ok (.iload_n 1, 1) := by decide +kernel
theorem dX0_listWords_71 : decode cX0_listWords 71 = .ok (.invokevirtual 137, 3) := by decide +kernel
theorem dX0_listWords_74 : decode cX0_listWords 74 = .ok (.i2l, 1) := by decide +kernel
theorem dX0_listWords_75 : decode cX0_listWords 75 = .ok (.aload_n 0, 1) := by decide +kernel
theorem dX0_listWords_76 : decode cX0_listWords 76 = .ok (.iload_n 1, 1) := by decide +kernel
theorem dX0_listWords_77 : decode cX0_listWords 77 = .ok (.invokevirtual 105, 3) := by decide +kernel
theorem dX0_listWords_80 : decode cX0_listWords 80 = .ok (.iconst 0, 1) := by decide +kernel
theorem dX0_listWords_81 : decode cX0_listWords 81 = .ok (.invokestatic 91, 3) := by decide +kernel
theorem dX0_listWords_84 : decode cX0_listWords 84 = .ok (.lshl, 1) := by decide +kernel
theorem dX0_listWords_85 : decode cX0_listWords 85 = .ok (.lor, 1) := by decide +kernel
theorem dX0_listWords_86 : decode cX0_listWords 86 = .ok (.lastore, 1) := by decide +kernel
theorem dX0_listWords_87 : decode cX0_listWords 87 = .ok (.iinc 1 1, 3) := by decide +kernel
theorem dX0_listWords_90 : decode cX0_listWords 90 = .ok (.goto (-83), 3) := by decide +kernel
theorem dX0_listWords_93 : decode cX0_listWords 93 = .ok (.return_, 1) := by decide +kernel
theorem dX0_placeOfWord_0 : decode cX0_placeOfWord 0 = .ok (.iconst 0, 1) := by decide +kernel
theorem dX0_placeOfWord_1 : decode cX0_placeOfWord 1 = .ok (.istore_n 2, 1) := by decide +kernel
theorem dX0_placeOfWord_2 : decode cX0_placeOfWord 2 = .ok (.iload_n 2, 1) := by decide +kernel
theorem dX0_placeOfWord_3 : decode cX0_placeOfWord 3 = .ok (.aload_n 0, 1) := by decide +kernel
theorem dX0_placeOfWord_4 : decode cX0_placeOfWord 4 = .ok (.getfield 18, 3) := by decide +kernel
theorem dX0_placeOfWord_7 : decode cX0_placeOfWord 7 = .ok (.if_icmp .ge 18, 3) := by decide +kernel
theorem dX0_placeOfWord_10 : decode cX0_placeOfWord 10 = .ok (.aload_n 0, 1) := by decide +kernel
theorem dX0_placeOfWord_11 : decode cX0_placeOfWord 11 = .ok (.iload_n 2, 1) := by decide +kernel
theorem dX0_placeOfWord_12 : decode cX0_placeOfWord 12 = .ok (.invokevirtual 130, 3) := by decide +kernel
theorem dX0_placeOfWord_15 : decode cX0_placeOfWord 15 = .ok (.iload_n 1, 1) := by decide +kernel
theorem dX0_placeOfWord_16 : decode cX0_placeOfWord 16 = .ok (.if_icmp .ge 9, 3) := by decide +kernel
theorem dX0_placeOfWord_19 : decode cX0_placeOfWord 19 = .ok (.iinc 2 1, 3) := by decide +kernel
theorem dX0_placeOfWord_22 : decode cX0_placeOfWord 22 = .ok (.goto (-20), 3) := by decide +kernel
theorem dX0_placeOfWord_25 : decode cX0_placeOfWord 25 = .ok (.iload_n 2, 1) := by decide +kernel
theorem dX0_placeOfWord_26 : decode cX0_placeOfWord 26 = .ok (.ireturn, 1) := by decide +kernel
theorem dX0_openWord_0 : decode cX0_openWord 0 = .ok (.iload_n 1, 1) := by decide +kernel
theorem dX0_openWord_1 : decode cX0_openWord 1 = .ok (.ifCond .lt 21, 3) := by decide +kernel
theorem dX0_openWord_4 : decode cX0_openWord 4 = .ok (.iload_n 1, 1) := by decide +kernel
theorem dX0_openWord_5 : decode cX0_openWord 5 = .ok (.aload_n 0, 1) := by decide +kernel
theorem dX0_openWord_6 : decode cX0_openWord 6 = .ok (.getfield 18, 3) := by decide +kernel
theorem dX0_openWord_9 : decode cX0_openWord 9 = .ok (.if_icmp .gt 13, 3) := by decide +kernel
theorem dX0_openWord_12 : decode cX0_openWord 12 = .ok (.aload_n 0, 1) := by decide +kernel
theorem dX0_openWord_13 : decode cX0_openWord 13 = .ok (.getfield 18, 3) := by decide +kernel
theorem dX0_openWord_16 : decode cX0_openWord 16 = .ok (.sipush 340, 3) := by decide +kernel
theorem dX0_openWord_19 : decode cX0_openWord 19 = .ok (.if_icmp .lt 4, 3) := by decide +kernel
theorem dX0_openWord_22 : decode cX0_openWord 22 = .ok (.return_, 1) := by decide +kernel
theorem dX0_openWord_23 : decode cX0_openWord 23 = .ok (.aload_n 0, 1) := by decide +kernel
theorem dX0_openWord_24 : decode cX0_openWord 24 = .ok (.getfield 18, 3) := by decide +kernel
theorem dX0_openWord_27 : decode cX0_openWord 27 = .ok (.istore_n 3, 1) := by decide +kernel
theorem dX0_openWord_28 : decode cX0_openWord 28 = .ok (.iload_n 3, 1) := by decide +kernel
theorem dX0_openWord_29 : decode cX0_openWord 29 = .ok (.iload_n 1, 1) := by decide +kernel
theorem dX0_openWord_30 : decode cX0_openWord 30 = .ok (.if_icmp .le 37, 3) := by decide +kernel
theorem dX0_openWord_33 : decode cX0_openWord 33 = .ok (.aload_n 0, 1) := by decide +kernel
theorem dX0_openWord_34 : decode cX0_openWord 34 = .ok (.getfield 43, 3) := by decide +kernel
theorem dX0_openWord_37 : decode cX0_openWord 37 = .ok (.iload_n 3, 1) := by decide +kernel
theorem dX0_openWord_38 : decode cX0_openWord 38 = .ok (.aload_n 0, 1) := by decide +kernel
theorem dX0_openWord_39 : decode cX0_openWord 39 = .ok (.getfield 43, 3) := by decide +kernel
theorem dX0_openWord_42 : decode cX0_openWord 42 = .ok (.iload_n 3, 1) := by decide +kernel
theorem dX0_openWord_43 : decode cX0_openWord 43 = .ok (.iconst 1, 1) := by decide +kernel
theorem dX0_openWord_44 : decode cX0_openWord 44 = .ok (.isub, 1) := by decide +kernel
theorem dX0_openWord_45 : decode cX0_openWord 45 = .ok (.iaload, 1) := by decide +kernel
theorem dX0_openWord_46 : decode cX0_openWord 46 = .ok (.iastore, 1) := by decide +kernel
theorem dX0_openWord_47 : decode cX0_openWord 47 = .ok (.aload_n 0, 1) := by decide +kernel
theorem dX0_openWord_48 : decode cX0_openWord 48 = .ok (.getfield 46, 3) := by decide +kernel
theorem dX0_openWord_51 : decode cX0_openWord 51 = .ok (.iload_n 3, 1) := by decide +kernel
theorem dX0_openWord_52 : decode cX0_openWord 52 = .ok (.aload_n 0, 1) := by decide +kernel
theorem dX0_openWord_53 : decode cX0_openWord 53 = .ok (.getfield 46, 3) := by decide +kernel
theorem dX0_openWord_56 : decode cX0_openWord 56 = .ok (.iload_n 3, 1) := by decide +kernel
theorem dX0_openWord_57 : decode cX0_openWord 57 = .ok (.iconst 1, 1) := by decide +kernel
theorem dX0_openWord_58 : decode cX0_openWord 58 = .ok (.isub, 1) := by decide +kernel
theorem dX0_openWord_59 : decode cX0_openWord 59 = .ok (.laload, 1) := by decide +kernel
theorem dX0_openWord_60 : decode cX0_openWord 60 = .ok (.lastore, 1) := by decide +kernel
theorem dX0_openWord_61 : decode cX0_openWord 61 = .ok (.iinc 3 (-1), 3) := by decide +kernel
theorem dX0_openWord_64 : decode cX0_openWord 64 = .ok (.goto (-36), 3) := by decide +kernel
theorem dX0_openWord_67 : decode cX0_openWord 67 = .ok (.aload_n 0, 1) := by decide +kernel
theorem dX0_openWord_68 : decode cX0_openWord 68 = .ok (.getfield 43, 3) := by decide +kernel
theorem dX0_openWord_71 : decode cX0_openWord 71 = .ok (.iload_n 1, 1) := by decide +kernel
theorem dX0_openWord_72 : decode cX0_openWord 72 = .ok (.iload_n 2, 1) := by decide +kernel
theorem dX0_openWord_73 : decode cX0_openWord 73 = .ok (.iastore, 1) := by decide +kernel
theorem dX0_openWord_74 : decode cX0_openWord 74 = .ok (.aload_n 0, 1) := by decide +kernel
theorem dX0_openWord_75 : decode cX0_openWord 75 = .ok (.getfield 46, 3) := by decide +kernel
theorem dX0_openWord_78 : decode cX0_openWord 78 = .ok (.iload_n 1, 1) := by decide +kernel
theorem dX0_openWord_79 : decode cX0_openWord 79 = .ok (.lconst 0, 1) := by decide +kernel
theorem dX0_openWord_80 : decode cX0_openWord 80 = .ok (.lastore, 1) := by decide +kernel
theorem dX0_openWord_81 : decode cX0_openWord 81 = .ok (.aload_n 0, 1) := by decide +kernel
theorem dX0_openWord_82 : decode cX0_openWord 82 = .ok (.dup, 1) := by decide +kernel
theorem dX0_openWord_83 : decode cX0_openWord 83 = .ok (.getfield 18, 3) := by decide +kernel
theorem dX0_openWord_86 : decode cX0_openWord 86 = .ok (.iconst 1, 1) := by decide +kernel
theorem dX0_openWord_87 : decode cX0_openWord 87 = .ok (.iadd, 1) := by decide +kernel
theorem dX0_openWord_88 : decode cX0_openWord 88 = .ok (.putfield 18, 3) := by decide +kernel
theorem dX0_openWord_91 : decode cX0_openWord 91 = .ok (.return_, 1) := by decide +kernel
theorem dX1_init_0 : decode cX1_init 0 = .ok (.aload_n 0, 1) := by decide +kernel
theorem dX1_init_1 : decode cX1_init 1 = .ok (.invokespecial 3, 3) := by decide +kernel
theorem dX1_init_4 : decode cX1_init 4 = .ok (.aload_n 0, 1) := by decide +kernel
theorem dX1_init_5 : decode cX1_init 5 = .ok (.new 9, 3) := by decide +kernel
theorem dX1_init_8 : decode cX1_init 8 = .ok (.dup, 1) := by decide +kernel
theorem dX1_init_9 : decode cX1_init 9 = .ok (.invokespecial 11, 3) := by decide +kernel
theorem dX1_init_12 : decode cX1_init 12 = .ok (.putfield 12, 3) := by decide +kernel
theorem dX1_init_15 : decode cX1_init 15 = .ok (.aload_n 0, 1) := by decide +kernel
theorem dX1_init_16 : decode cX1_init 16 = .ok (.iconst 1, 1) := by decide +kernel
theorem dX1_init_17 : decode cX1_init 17 = .ok (.newarray .int, 2) := by decide +kernel
theorem dX1_init_19 : decode cX1_init 19 = .ok (.putfield 18, 3) := by decide +kernel
theorem dX1_init_22 : decode cX1_init 22 = .ok (.aload_n 0, 1) := by decide +kernel
theorem dX1_init_23 : decode cX1_init 23 = .ok (.iconst 0, 1) := by decide +kernel
theorem dX1_init_24 : decode cX1_init 24 = .ok (.putfield 22, 3) := by decide +kernel
theorem dX1_init_27 : decode cX1_init 27 = .ok (.return_, 1) := by decide +kernel
theorem dX1_goOn_0 : decode cX1_goOn 0 = .ok (.aload_n 0, 1) := by decide +kernel
theorem dX1_goOn_1 : decode cX1_goOn 1 = .ok (.getfield 12, 3) := by decide +kernel
theorem dX1_goOn_4 : decode cX1_goOn 4 = .ok (.aload_n 1, 1) := by decide +kernel
theorem dX1_goOn_5 : decode cX1_goOn 5 = .ok (.invokevirtual 26, 3) := by decide +kernel
theorem dX1_goOn_8 : decode cX1_goOn 8 = .ok (.aload_n 0, 1) := by decide +kernel
theorem dX1_goOn_9 : decode cX1_goOn 9 = .ok (.iload_n 2, 1) := by decide +kernel
theorem dX1_goOn_10 : decode cX1_goOn 10 = .ok (.putfield 22, 3) := by decide +kernel
theorem dX1_goOn_13 : decode cX1_goOn 13 = .ok (.iconst 0, 1) := by decide +kernel
theorem dX1_goOn_14 : decode cX1_goOn 14 = .ok (.istore 4, 2) := by decide +kernel
theorem dX1_goOn_16 : decode cX1_goOn 16 = .ok (.iload 4, 2) := by decide +kernel
theorem dX1_goOn_18 : decode cX1_goOn 18 = .ok (.iload_n 3, 1) := by decide +kernel
theorem dX1_goOn_19 : decode cX1_goOn 19 = .ok (.if_icmp .ge 44, 3) := by decide +kernel
theorem dX1_goOn_22 : decode cX1_goOn 22 = .ok (.aload_n 0, 1) := by decide +kernel
theorem dX1_goOn_23 : decode cX1_goOn 23 = .ok (.getfield 12, 3) := by decide +kernel
theorem dX1_goOn_26 : decode cX1_goOn 26 = .ok (.getfield 30, 3) := by decide +kernel
theorem dX1_goOn_29 : decode cX1_goOn 29 = .ok (.ifCond .le 34, 3) := by decide +kernel
theorem dX1_goOn_32 : decode cX1_goOn 32 = .ok (.aload_n 0, 1) := by decide +kernel
theorem dX1_goOn_33 : decode cX1_goOn 33 = .ok (.aload_n 0, 1) := by decide +kernel
theorem dX1_goOn_34 : decode cX1_goOn 34 = .ok (.getfield 12, 3) := by decide +kernel
theorem dX1_goOn_37 : decode cX1_goOn 37 = .ok (.getfield 30, 3) := by decide +kernel
theorem dX1_goOn_40 : decode cX1_goOn 40 = .ok (.invokevirtual 33, 3) := by decide +kernel
theorem dX1_goOn_43 : decode cX1_goOn 43 = .ok (.istore 5, 2) := by decide +kernel
theorem dX1_goOn_45 : decode cX1_goOn 45 = .ok (.aload_n 0, 1) := by decide +kernel
theorem dX1_goOn_46 : decode cX1_goOn 46 = .ok (.iload 5, 2) := by decide +kernel
theorem dX1_goOn_48 : decode cX1_goOn 48 = .ok (.aload_n 0, 1) := by decide +kernel
theorem dX1_goOn_49 : decode cX1_goOn 49 = .ok (.bipush 6, 2) := by decide +kernel
theorem dX1_goOn_51 : decode cX1_goOn 51 = .ok (.invokevirtual 33, 3) := by decide +kernel
theorem dX1_goOn_54 : decode cX1_goOn 54 = .ok (.invokevirtual 37, 3) := by decide +kernel
theorem dX1_goOn_57 : decode cX1_goOn 57 = .ok (.iinc 4 1, 3) := by decide +kernel
theorem dX1_goOn_60 : decode cX1_goOn 60 = .ok (.goto (-44), 3) := by decide +kernel
theorem dX1_goOn_63 : decode cX1_goOn 63 = .ok (.aload_n 0, 1) := by decide +kernel
theorem dX1_goOn_64 : decode cX1_goOn 64 = .ok (.getfield 12, 3) := by decide +kernel
theorem dX1_goOn_67 : decode cX1_goOn 67 = .ok (.areturn, 1) := by decide +kernel
theorem dX1_below_0 : decode cX1_below 0 = .ok (.aload_n 0, 1) := by decide +kernel
theorem dX1_below_1 : decode cX1_below 1 = .ok (.aload_n 0, 1) := by decide +kernel
theorem dX1_below_2 : decode cX1_below 2 = .ok (.getfield 22, 3) := by decide +kernel
theorem dX1_below_5 : decode cX1_below 5 = .ok (.ldc 41, 2) := by decide +kernel
theorem dX1_below_7 : decode cX1_below 7 = .ok (.imul, 1) := by decide +kernel
theorem dX1_below_8 : decode cX1_below 8 = .ok (.sipush 12345, 3) := by decide +kernel
theorem dX1_below_11 : decode cX1_below 11 = .ok (.iadd, 1) := by decide +kernel
theorem dX1_below_12 : decode cX1_below 12 = .ok (.putfield 22, 3) := by decide +kernel
theorem dX1_below_15 : decode cX1_below 15 = .ok (.iload_n 1, 1) := by decide +kernel
theorem dX1_below_16 : decode cX1_below 16 = .ok (.ifCond .le 15, 3) := by decide +kernel
theorem dX1_below_19 : decode cX1_below 19 = .ok (.aload_n 0, 1) := by decide +kernel
theorem dX1_below_20 : decode cX1_below 20 = .ok (.getfield 22, 3) := by decide +kernel
theorem dX1_below_23 : decode cX1_below 23 = .ok (.bipush 16, 2) := by decide +kernel
theorem dX1_below_25 : decode cX1_below 25 = .ok (.iushr, 1) := by decide +kernel
theorem dX1_below_26 : decode cX1_below 26 = .ok (.iload_n 1, 1) := by decide +kernel
theorem dX1_below_27 : decode cX1_below 27 = .ok (.irem, 1) := by decide +kernel
theorem dX1_below_28 : decode cX1_below 28 = .ok (.goto 4, 3) := by decide +kernel
theorem dX1_below_31 : decode cX1_below 31 = .ok (.iconst 0, 1) := by decide +kernel
theorem dX1_below_32 : decode cX1_below 32 = .ok (.ireturn, 1) := by decide +kernel
theorem dX1_deed_0 : decode cX1_deed 0 = .ok (.aload_n 0, 1) := by decide +kernel
theorem dX1_deed_1 : decode cX1_deed 1 = .ok (.getfield 12, 3) := by decide +kernel
theorem dX1_deed_4 : decode cX1_deed 4 = .ok (.iload_n 1, 1) := by decide +kernel
theorem dX1_deed_5 : decode cX1_deed 5 = .ok (.invokevirtual 42, 3) := by decide +kernel
theorem dX1_deed_8 : decode cX1_deed 8 = .ok (.ifCond .le 7, 3) := by decide +kernel
theorem dX1_deed_11 : decode cX1_deed 11 = .ok (.iconst 1, 1) := by decide +kernel
theorem dX1_deed_12 : decode cX1_deed 12 = .ok (.goto 4, 3) := by decide +kernel
theorem dX1_deed_15 : decode cX1_deed 15 = .ok (.iconst 0, 1) := by decide +kernel
theorem dX1_deed_16 : decode cX1_deed 16 = .ok (.istore_n 3, 1) := by decide +kernel
theorem dX1_deed_17 : decode cX1_deed 17 = .ok (.iload_n 2, 1) := by decide +kernel
theorem dX1_deed_18 : decode cX1_deed 18 = .ok (.iconst 2, 1) := by decide +kernel
theorem dX1_deed_19 : decode cX1_deed 19 = .ok (.if_icmp .ge 15, 3) := by decide +kernel
theorem dX1_deed_22 : decode cX1_deed 22 = .ok (.iload_n 3, 1) := by decide +kernel
theorem dX1_deed_23 : decode cX1_deed 23 = .ok (.ifCond .eq 58, 3) := by decide +kernel
theorem dX1_deed_26 : decode cX1_deed 26 = .ok (.aload_n 0, 1) := by decide +kernel
theorem dX1_deed_27 : decode cX1_deed 27 = .ok (.iload_n 1, 1) := by decide +kernel
theorem dX1_deed_28 : decode cX1_deed 28 = .ok (.invokevirtual 45, 3) := by decide +kernel
theorem dX1_deed_31 : decode cX1_deed 31 = .ok (.goto 50, 3) := by decide +kernel
theorem dX1_deed_34 : decode cX1_deed 34 = .ok (.iload_n 2, 1) := by decide +kernel
theorem dX1_deed_35 : decode cX1_deed 35 = .ok (.iconst 4, 1) := by decide +kernel
theorem dX1_deed_36 : decode cX1_deed 36 = .ok (.if_icmp .ge 23, 3) := by decide +kernel
theorem dX1_deed_39 : decode cX1_deed 39 = .ok (.aload_n 0, 1) := by decide +kernel
theorem dX1_deed_40 : decode cX1_deed 40 = .ok (.getfield 12, 3) := by decide +kernel
theorem dX1_deed_43 : decode cX1_deed 43 = .ok (.iload_n 1, 1) := by decide +kernel
theorem dX1_deed_44 : decode cX1_deed 44 = .ok (.invokevirtual 49, 3) := by decide +kernel
theorem dX1_deed_47 : decode cX1_deed 47 = .ok (.iconst (-1), 1) := by decide +kernel
theorem dX1_deed_48 : decode cX1_deed 48 = .ok (.if_icmp .eq 33, 3) := by decide +kernel
theorem dX1_deed_51 : decode cX1_deed 51 = .ok (.aload_n 0, 1) := by decide +kernel
theorem dX1_deed_52 : decode cX1_deed 52 = .ok (.iload_n 1, 1) := by decide +kernel
theorem dX1_deed_53 : decode cX1_deed 53 = .ok (.invokevirtual 52, 3) := by decide +kernel
theorem dX1_deed_56 : decode cX1_deed 56 = .ok (.goto 25, 3) := by decide +kernel
theorem dX1_deed_59 : decode cX1_deed 59 = .ok (.iload_n 2, 1) := by decide +kernel
theorem dX1_deed_60 : decode cX1_deed 60 = .ok (.iconst 4, 1) := by decide +kernel
theorem dX1_deed_61 : decode cX1_deed 61 = .ok (.if_icmp .ne 15, 3) := by decide +kernel
theorem dX1_deed_64 : decode cX1_deed 64 = .ok (.iload_n 3, 1) := by decide +kernel
theorem dX1_deed_65 : decode cX1_deed 65 = .ok (.ifCond .eq 16, 3) := by decide +kernel
theorem dX1_deed_68 : decode cX1_deed 68 = .ok (.aload_n 0, 1) := by decide +kernel
theorem dX1_deed_69 : decode cX1_deed 69 = .ok (.iload_n 1, 1) := by decide +kernel
theorem dX1_deed_70 : decode cX1_deed 70 = .ok (.invokevirtual 55, 3) := by decide +kernel
theorem dX1_deed_73 : decode cX1_deed 73 = .ok (.goto 8, 3) := by decide +kernel
theorem dX1_deed_76 : decode cX1_deed 76 = .ok (.aload_n 0, 1) := by decide +kernel
theorem dX1_deed_77 : decode cX1_deed 77 = .ok (.iload_n 1, 1) := by decide +kernel
theorem dX1_deed_78 : decode cX1_deed 78 = .ok (.invokevirtual 58, 3) := by decide +kernel
theorem dX1_deed_81 : decode cX1_deed 81 = .ok (.return_, 1) := by decide +kernel
theorem dX1_mayGoOn_0 : decode cX1_mayGoOn 0 = .ok (.aload_n 0, 1) := by decide +kernel
theorem dX1_mayGoOn_1 : decode cX1_mayGoOn 1 = .ok (.getfield 12, 3) := by decide +kernel
theorem dX1_mayGoOn_4 : decode cX1_mayGoOn 4 = .ok (.iload_n 1, 1) := by decide +kernel
theorem dX1_mayGoOn_5 : decode cX1_mayGoOn 5 = .ok (.invokevirtual 61, 3) := by decide +kernel
theorem dX1_mayGoOn_8 : decode cX1_mayGoOn 8 = .ok (.bipush 10, 2) := by decide +kernel
theorem dX1_mayGoOn_10 : decode cX1_mayGoOn 10 = .ok (.if_icmp .ge 7, 3) := by decide +kernel
theorem dX1_mayGoOn_13 : decode cX1_mayGoOn 13 = .ok (.iconst 1, 1) := by decide +kernel
theorem dX1_mayGoOn_14 : decode cX1_mayGoOn 14 = .ok (.goto 4, 3) := by decide +kernel
theorem dX1_mayGoOn_17 : decode cX1_mayGoOn 17 = .ok (.iconst 0, 1) := by decide +kernel
theorem dX1_mayGoOn_18 : decode cX1_mayGoOn 18 = .ok (.ireturn, 1) := by decide +kernel
theorem dX1_cut_0 : decode cX1_cut 0 = .ok (.aload_n 0, 1) := by decide +kernel
theorem dX1_cut_1 : decode cX1_cut 1 = .ok (.aload_n 0, 1) := by decide +kernel
theorem dX1_cut_2 : decode cX1_cut 2 = .ok (.getfield 12, 3) := by decide +kernel
theorem dX1_cut_5 : decode cX1_cut 5 = .ok (.iload_n 1, 1) := by decide +kernel
theorem dX1_cut_6 : decode cX1_cut 6 = .ok (.invokevirtual 42, 3) := by decide +kernel
theorem dX1_cut_9 : decode cX1_cut 9 = .ok (.invokevirtual 33, 3) := by decide +kernel
theorem dX1_cut_12 : decode cX1_cut 12 = .ok (.istore_n 2, 1) := by decide +kernel
theorem dX1_cut_13 : decode cX1_cut 13 = .ok (.aload_n 0, 1) := by decide +kernel
theorem dX1_cut_14 : decode cX1_cut 14 = .ok (.iload_n 1, 1) := by decide +kernel
theorem dX1_cut_15 : decode cX1_cut 15 = .ok (.invokevirtual 64, 3) := by decide +kernel
theorem dX1_cut_18 : decode cX1_cut 18 = .ok (.ifCond .eq 14, 3) := by decide +kernel
theorem dX1_cut_21 : decode cX1_cut 21 = .ok (.aload_n 0, 1) := by decide +kernel
theorem dX1_cut_22 : decode cX1_cut 22 = .ok (.getfield 12, 3) := by decide +kernel
theorem dX1_cut_25 : decode cX1_cut 25 = .ok (.iload_n 1, 1) := by decide +kernel
theorem dX1_cut_26 : decode cX1_cut 26 = .ok (.iload_n 2, 1) := by decide +kernel
theorem dX1_cut_27 : decode cX1_cut 27 = .ok (.iconst 1, 1) := by decide +kernel
theorem dX1_cut_28 : decode cX1_cut 28 = .ok (.iconst (-1), 1) := by decide +kernel
theorem dX1_cut_29 : decode cX1_cut 29 = .ok (.invokevirtual 68, 3) := by decide +kernel
theorem dX1_cut_32 : decode cX1_cut 32 = .ok (.return_, 1) := by decide +kernel
theorem dX1_put_0 : decode cX1_put 0 = .ok (.aload_n 0, 1) := by decide +kernel
theorem dX1_put_1 : decode cX1_put 1 = .ok (.getfield 12, 3) := by decide +kernel
theorem dX1_put_4 : decode cX1_put 4 = .ok (.iload_n 1, 1) := by decide +kernel
theorem dX1_put_5 : decode cX1_put 5 = .ok (.invokevirtual 42, 3) := by decide +kernel
theorem dX1_put_8 : decode cX1_put 8 = .ok (.istore_n 2, 1) := by decide +kernel
theorem dX1_put_9 : decode cX1_put 9 = .ok (.aload_n 0, 1) := by decide +kernel
theorem dX1_put_10 : decode cX1_put 10 = .ok (.iload_n 2, 1) := by decide +kernel
theorem dX1_put_11 : decode cX1_put 11 = .ok (.iconst 1, 1) := by decide +kernel
theorem dX1_put_12 : decode cX1_put 12 = .ok (.iadd, 1) := by decide +kernel
theorem dX1_put_13 : decode cX1_put 13 = .ok (.invokevirtual 33, 3) := by decide +kernel
theorem dX1_put_16 : decode cX1_put 16 = .ok (.istore_n 3, 1) := by decide +kernel
theorem dX1_put_17 : decode cX1_put 17 = .ok (.aload_n 0, 1) := by decide +kernel
theorem dX1_put_18 : decode cX1_put 18 = .ok (.iload_n 1, 1) := by decide +kernel
theorem dX1_put_19 : decode cX1_put 19 = .ok (.invokevirtual 64, 3) := by decide +kernel
theorem dX1_put_22 : decode cX1_put 22 = .ok (.ifCond .eq 50, 3) := by decide +kernel
theorem dX1_put_25 : decode cX1_put 25 = .ok (.iload_n 2, 1) := by decide +kernel
theorem dX1_put_26 : decode cX1_put 26 = .ok (.bipush 20, 2) := by decide +kernel
theorem dX1_put_28 : decode cX1_put 28 = .ok (.if_icmp .ge 44, 3) := by decide +kernel
theorem dX1_put_31 : decode cX1_put 31 = .ok (.aload_n 0, 1) := by decide +kernel
theorem dX1_put_32 : decode cX1_put 32 = .ok (.getfield 18, 3) := by decide +kernel
theorem dX1_put_35 : decode cX1_put 35 = .ok (.iconst 0, 1) := by decide +kernel
theorem dX1_put_36 : decode cX1_put 36 = .ok (.aload_n 0, 1) := by decide +kernel
theorem dX1_put_37 : decode cX1_put 37 = .ok (.getfield 12, 3) := by decide +kernel
theorem dX1_put_40 : decode cX1_put 40 = .ok (.getfield 72, 3) := by decide +kernel
theorem dX1_put_43 : decode cX1_put 43 = .ok (.aload_n 0, 1) := by decide +kernel
theorem dX1_put_44 : decode cX1_put 44 = .ok (.getfield 12, 3) := by decide +kernel
theorem dX1_put_47 : decode cX1_put 47 = .ok (.iload_n 1, 1) := by decide +kernel
theorem dX1_put_48 : decode cX1_put 48 = .ok (.invokevirtual 49, 3) := by decide +kernel
theorem dX1_put_51 : decode cX1_put 51 = .ok (.invokestatic 75, 3) := by decide +kernel
theorem dX1_put_54 : decode cX1_put 54 = .ok (.invokestatic 81, 3) := by decide +kernel
theorem dX1_put_57 : decode cX1_put 57 = .ok (.aload_n 0, 1) := by decide +kernel
theorem dX1_put_58 : decode cX1_put 58 = .ok (.getfield 12, 3) := by decide +kernel
theorem dX1_put_61 : decode cX1_put 61 = .ok (.iload_n 1, 1) := by decide +kernel
theorem dX1_put_62 : decode cX1_put 62 = .ok (.iload_n 3, 1) := by decide +kernel
theorem dX1_put_63 : decode cX1_put 63 = .ok (.aload_n 0, 1) := by decide +kernel
theorem dX1_put_64 : decode cX1_put 64 = .ok (.getfield 18, 3) := by decide +kernel
theorem dX1_put_67 : decode cX1_put 67 = .ok (.iconst 1, 1) := by decide +kernel
theorem dX1_put_68 : decode cX1_put 68 = .ok (.iconst (-1), 1) := by decide +kernel
theorem dX1_put_69 : decode cX1_put 69 = .ok (.invokevirtual 85, 3) := by decide +kernel
theorem dX1_put_72 : decode cX1_put 72 = .ok (.return_, 1) := by decide +kernel
theorem dX1_move_0 : decode cX1_move 0 = .ok (.aload_n 0, 1) := by decide +kernel
theorem dX1_move_1 : decode cX1_move 1 = .ok (.getfield 12, 3) := by decide +kernel
theorem dX1_move_4 : decode cX1_move 4 = .ok (.iload_n 1, 1) := by decide +kernel
theorem dX1_move_5 : decode cX1_move 5 = .ok (.invokevirtual 42, 3) := by decide +kernel
theorem dX1_move_8 : decode cX1_move 8 = .ok (.istore_n 2, 1) := by decide +kernel
theorem dX1_move_9 : decode cX1_move 9 = .ok (.aload_n 0, 1) := by decide +kernel
theorem dX1_move_10 : decode cX1_move 10 = .ok (.iload_n 2, 1) := by decide +kernel
theorem dX1_move_11 : decode cX1_move 11 = .ok (.invokevirtual 33, 3) := by decide +kernel
theorem dX1_move_14 : decode cX1_move 14 = .ok (.istore_n 3, 1) := by decide +kernel
theorem dX1_move_15 : decode cX1_move 15 = .ok (.aload_n 0, 1) := by decide +kernel
theorem dX1_move_16 : decode cX1_move 16 = .ok (.iload_n 2, 1) := by decide +kernel
theorem dX1_move_17 : decode cX1_move 17 = .ok (.invokevirtual 33, 3) := by decide +kernel
theorem dX1_move_20 : decode cX1_move 20 = .ok (.istore 4, 2) := by decide +kernel
theorem dX1_move_22 : decode cX1_move 22 = .ok (.aload_n 0, 1) := by decide +kernel
theorem dX1_move_23 : decode cX1_move 23 = .ok (.iload_n 1, 1) := by decide +kernel
theorem dX1_move_24 : decode cX1_move 24 = .ok (.invokevirtual 64, 3) := by decide +kernel
theorem dX1_move_27 : decode cX1_move 27 = .ok (.ifCond .eq 15, 3) := by decide +kernel
theorem dX1_move_30 : decode cX1_move 30 = .ok (.aload_n 0, 1) := by decide +kernel
theorem dX1_move_31 : decode cX1_move 31 = .ok (.getfield 12, 3) := by decide +kernel
theorem dX1_move_34 : decode cX1_move 34 = .ok (.iload_n 1, 1) := by decide +kernel
theorem dX1_move_35 : decode cX1_move 35 = .ok (.iload_n 3, 1) := by decide +kernel
theorem dX1_move_36 : decode cX1_move 36 = .ok (.iload 4, 2) := by decide +kernel
theorem dX1_move_38 : decode cX1_move 38 = .ok (.iconst (-1), 1) := by decide +kernel
theorem dX1_move_39 : decode cX1_move 39 = .ok (.invokevirtual 89, 3) := by decide +kernel
theorem dX1_move_42 : decode cX1_move 42 = .ok (.return_, 1) := by decide +kernel
theorem dX1_back_0 : decode cX1_back 0 = .ok (.aload_n 0, 1) := by decide +kernel
theorem dX1_back_1 : decode cX1_back 1 = .ok (.aload_n 0, 1) := by decide +kernel
theorem dX1_back_2 : decode cX1_back 2 = .ok (.getfield 12, 3) := by decide +kernel
theorem dX1_back_5 : decode cX1_back 5 = .ok (.iload_n 1, 1) := by decide +kernel
theorem dX1_back_6 : decode cX1_back 6 = .ok (.invokevirtual 61, 3) := by decide +kernel
theorem dX1_back_9 : decode cX1_back 9 = .ok (.invokevirtual 33, 3) := by decide +kernel
theorem dX1_back_12 : decode cX1_back 12 = .ok (.istore_n 2, 1) := by decide +kernel
theorem dX1_back_13 : decode cX1_back 13 = .ok (.aload_n 0, 1) := by decide +kernel
theorem dX1_back_14 : decode cX1_back 14 = .ok (.iload_n 1, 1) := by decide +kernel
theorem dX1_back_15 : decode cX1_back 15 = .ok (.invokevirtual 64, 3) := by decide +kernel
theorem dX1_back_18 : decode cX1_back 18 = .ok (.ifCond .eq 13, 3) := by decide +kernel
theorem dX1_back_21 : decode cX1_back 21 = .ok (.aload_n 0, 1) := by decide +kernel
theorem dX1_back_22 : decode cX1_back 22 = .ok (.getfield 12, 3) := by decide +kernel
theorem dX1_back_25 : decode cX1_back 25 = .ok (.iload_n 1, 1) := by decide +kernel
theorem dX1_back_26 : decode cX1_back 26 = .ok (.iload_n 2, 1) := by decide +kernel
theorem dX1_back_27 : decode cX1_back 27 = .ok (.iconst (-1), 1) := by decide +kernel
theorem dX1_back_28 : decode cX1_back 28 = .ok (.invokevirtual 92, 3) := by decide +kernel
theorem dX1_back_31 : decode cX1_back 31 = .ok (.return_, 1) := by decide +kernel
theorem dX2_init_0 : decode cX2_init 0 = .ok (.aload_n 0, 1) := by decide +kernel
theorem dX2_init_1 : decode cX2_init 1 = .ok (.invokespecial 3, 3) := by decide +kernel
theorem dX2_init_4 : decode cX2_init 4 = .ok (.aload_n 0, 1) := by decide +kernel
theorem dX2_init_5 : decode cX2_init 5 = .ok (.bipush 21, 2) := by decide +kernel
theorem dX2_init_7 : decode cX2_init 7 = .ok (.newarray .int, 2) := by decide +kernel
theorem dX2_init_9 : decode cX2_init 9 = .ok (.putfield 11, 3) := by decide +kernel
theorem dX2_init_12 : decode cX2_init 12 = .ok (.return_, 1) := by decide +kernel
theorem dX2_size_0 : decode cX2_size 0 = .ok (.iconst 0, 1) := by decide +kernel
theorem dX2_size_1 : decode cX2_size 1 = .ok (.istore_n 2, 1) := by decide +kernel
theorem dX2_size_2 : decode cX2_size 2 = .ok (.iconst 0, 1) := by decide +kernel
theorem dX2_size_3 : decode cX2_size 3 = .ok (.istore_n 3, 1) := by decide +kernel
theorem dX2_size_4 : decode cX2_size 4 = .ok (.iload_n 3, 1) := by decide +kernel
theorem dX2_size_5 : decode cX2_size 5 = .ok (.aload_n 1, 1) := by decide +kernel
theorem dX2_size_6 : decode cX2_size 6 = .ok (.getfield 17, 3) := by decide +kernel
theorem dX2_size_9 : decode cX2_size 9 = .ok (.if_icmp .ge 38, 3) := by decide +kernel
theorem dX2_size_12 : decode cX2_size 12 = .ok (.iconst 0, 1) := by decide +kernel
theorem dX2_size_13 : decode cX2_size 13 = .ok (.istore 4, 2) := by decide +kernel
theorem dX2_size_15 : decode cX2_size 15 = .ok (.iload 4, 2) := by decide +kernel
theorem dX2_size_17 : decode cX2_size 17 = .ok (.aload_n 1, 1) := by decide +kernel
theorem dX2_size_18 : decode cX2_size 18 = .ok (.iload_n 3, 1) := by decide +kernel
theorem dX2_size_19 : decode cX2_size 19 = .ok (.invokevirtual 21, 3) := by decide +kernel
theorem dX2_size_22 : decode cX2_size 22 = .ok (.if_icmp .ge 19, 3) := by decide +kernel
theorem dX2_size_25 : decode cX2_size 25 = .ok (.iload_n 2, 1) := by decide +kernel
theorem dX2_size_26 : decode cX2_size 26 = .ok (.aload_n 1, 1) := by decide +kernel
theorem dX2_size_27 : decode cX2_size 27 = .ok (.iload_n 3, 1) := by decide +kernel
theorem dX2_size_28 : decode cX2_size 28 = .ok (.iload 4, 2) := by decide +kernel
theorem dX2_size_30 : decode cX2_size 30 = .ok (.invokevirtual 25, 3) := by decide +kernel
theorem dX2_size_33 : decode cX2_size 33 = .ok (.iadd, 1) := by decide +kernel
theorem dX2_size_34 : decode cX2_size 34 = .ok (.istore_n 2, 1) := by decide +kernel
theorem dX2_size_35 : decode cX2_size 35 = .ok (.iinc 4 1, 3) := by decide +kernel
theorem dX2_size_38 : decode cX2_size 38 = .ok (.goto (-23), 3) := by decide +kernel
theorem dX2_size_41 : decode cX2_size 41 = .ok (.iinc 3 1, 3) := by decide +kernel
theorem dX2_size_44 : decode cX2_size 44 = .ok (.goto (-40), 3) := by decide +kernel
theorem dX2_size_47 : decode cX2_size 47 = .ok (.iload_n 2, 1) := by decide +kernel
theorem dX2_size_48 : decode cX2_size 48 = .ok (.ireturn, 1) := by decide +kernel
theorem dX2_postings_0 : decode cX2_postings 0 = .ok (.iconst 0, 1) := by decide +kernel
theorem dX2_postings_1 : decode cX2_postings 1 = .ok (.istore_n 2, 1) := by decide +kernel
theorem dX2_postings_2 : decode cX2_postings 2 = .ok (.iconst 0, 1) := by decide +kernel
theorem dX2_postings_3 : decode cX2_postings 3 = .ok (.istore_n 3, 1) := by decide +kernel
theorem dX2_postings_4 : decode cX2_postings 4 = .ok (.iload_n 3, 1) := by decide +kernel
theorem dX2_postings_5 : decode cX2_postings 5 = .ok (.aload_n 1, 1) := by decide +kernel
theorem dX2_postings_6 : decode cX2_postings 6 = .ok (.getfield 29, 3) := by decide +kernel
theorem dX2_postings_9 : decode cX2_postings 9 = .ok (.if_icmp .ge 20, 3) := by decide +kernel
theorem dX2_postings_12 : decode cX2_postings 12 = .ok (.iload_n 2, 1) := by decide +kernel
theorem dX2_postings_13 : decode cX2_postings 13 = .ok (.aload_n 1, 1) := by decide +kernel
theorem dX2_postings_14 : decode cX2_postings 14 = .ok (.iload_n 3, 1) := by decide +kernel
theorem dX2_postings_15 : decode cX2_postings 15 = .ok (.invokevirtual 32, 3) := by decide +kernel
theorem dX2_postings_18 : decode cX2_postings 18 = .ok (.invokestatic 35, 3) := by decide +kernel
theorem dX2_postings_21 : decode cX2_postings 21 = .ok (.iadd, 1) := by decide +kernel
theorem dX2_postings_22 : decode cX2_postings 22 = .ok (.istore_n 2, 1) := by decide +kernel
theorem dX2_postings_23 : decode cX2_postings 23 = .ok (.iinc 3 1, 3) := by decide +kernel
theorem dX2_postings_26 : decode cX2_postings 26 = .ok (.goto (-22), 3) := by decide +kernel
theorem dX2_postings_29 : decode cX2_postings 29 = .ok (.iload_n 2, 1) := by decide +kernel
theorem dX2_postings_30 : decode cX2_postings 30 = .ok (.ireturn, 1) := by decide +kernel
theorem dX2_longestDocument_0 : decode cX2_longestDocument 0 = .ok (.iconst (-1), 1) := by decide +kernel
theorem dX2_longestDocument_1 : decode cX2_longestDocument 1 = .ok (.istore_n 2, 1) := by decide +kernel
theorem dX2_longestDocument_2 : decode cX2_longestDocument 2 = .ok (.iconst 0, 1) := by decide +kernel
theorem dX2_longestDocument_3 : decode cX2_longestDocument 3 = .ok (.istore_n 3, 1) := by decide +kernel
theorem dX2_longestDocument_4 : decode cX2_longestDocument 4 = .ok (.iload_n 3, 1) := by decide +kernel
theorem dX2_longestDocument_5 : decode cX2_longestDocument 5 = .ok (.aload_n 1, 1) := by decide +kernel
theorem dX2_longestDocument_6 : decode cX2_longestDocument 6 = .ok (.getfield 17, 3) := by decide +kernel
theorem dX2_longestDocument_9 : decode cX2_longestDocument 9 = .ok (.if_icmp .ge 29, 3) := by decide +kernel
theorem dX2_longestDocument_12 : decode cX2_longestDocument 12 = .ok (.iload_n 2, 1) := by decide +kernel
theorem dX2_longestDocument_13 : decode cX2_longestDocument 13 = .ok (.iconst (-1), 1) := by decide +kernel
theorem dX2_longestDocument_14 : decode cX2_longestDocument 14 = .ok (.if_icmp .eq 16, 3) := by decide +kernel
theorem dX2_longestDocument_17 : decode cX2_longestDocument 17 = .ok (.aload_n 1, 1) := by decide +kernel
theorem dX2_longestDocument_18 : decode cX2_longestDocument 18 = .ok (.iload_n 3, 1) := by decide +kernel
theorem dX2_longestDocument_19 : decode cX2_longestDocument 19 = .ok (.invokevirtual 40, 3) := by decide +kernel
theorem dX2_longestDocument_22 : decode cX2_longestDocument 22 = .ok (.aload_n 1, 1) := by decide +kernel
theorem dX2_longestDocument_23 : decode cX2_longestDocument 23 = .ok (.iload_n 2, 1) := by decide +kernel
theorem dX2_longestDocument_24 : decode cX2_longestDocument 24 = .ok (.invokevirtual 40, 3) := by decide +kernel
theorem dX2_longestDocument_27 : decode cX2_longestDocument 27 = .ok (.if_icmp .le 5, 3) := by decide +kernel
theorem dX2_longestDocument_30 : decode cX2_longestDocument 30 = .ok (.iload_n 3, 1) := by decide +kernel
theorem dX2_longestDocument_31 : decode cX2_longestDocument 31 = .ok (.istore_n 2, 1) := by decide +kernel
theorem dX2_longestDocument_32 : decode cX2_longestDocument 32 = .ok (.iinc 3 1, 3) := by decide +kernel
theorem dX2_longestDocument_35 : decode cX2_longestDocument 35 = .ok (.goto (-31), 3) := by decide +kernel
theorem dX2_longestDocument_38 : decode cX2_longestDocument 38 = .ok (.iload_n 2, 1) := by decide +kernel
theorem dX2_longestDocument_39 : decode cX2_longestDocument 39 = .ok (.ireturn, 1) := by decide +kernel
theorem dX2_twins_0 : decode cX2_twins 0 = .ok (.iconst 0, 1) := by decide +kernel
theorem dX2_twins_1 : decode cX2_twins 1 = .ok (.istore_n 2, 1) := by decide +kernel
theorem dX2_twins_2 : decode cX2_twins 2 = .ok (.iconst 0, 1) := by decide +kernel
theorem dX2_twins_3 : decode cX2_twins 3 = .ok (.istore_n 3, 1) := by decide +kernel
theorem dX2_twins_4 : decode cX2_twins 4 = .ok (.iload_n 3, 1) := by decide +kernel
theorem dX2_twins_5 : decode cX2_twins 5 = .ok (.aload_n 1, 1) := by decide +kernel
theorem dX2_twins_6 : decode cX2_twins 6 = .ok (.getfield 17, 3) := by decide +kernel
theorem dX2_twins_9 : decode cX2_twins 9 = .ok (.if_icmp .ge 39, 3) := by decide +kernel
theorem dX2_twins_12 : decode cX2_twins 12 = .ok (.iconst 0, 1) := by decide +kernel
theorem dX2_twins_13 : decode cX2_twins 13 = .ok (.istore 4, 2) := by decide +kernel
theorem dX2_twins_15 : decode cX2_twins 15 = .ok (.iload 4, 2) := by decide +kernel
theorem dX2_twins_17 : decode cX2_twins 17 = .ok (.aload_n 1, 1) := by decide +kernel
theorem dX2_twins_18 : decode cX2_twins 18 = .ok (.iload_n 3, 1) := by decide +kernel
theorem dX2_twins_19 : decode cX2_twins 19 = .ok (.invokevirtual 21, 3) := by decide +kernel
theorem dX2_twins_22 : decode cX2_twins 22 = .ok (.if_icmp .ge 20, 3) := by decide +kernel
theorem dX2_twins_25 : decode cX2_twins 25 = .ok (.iload_n 2, 1) := by decide +kernel
theorem dX2_twins_26 : decode cX2_twins 26 = .ok (.aload_n 0, 1) := by decide +kernel
theorem dX2_twins_27 : decode cX2_twins 27 = .ok (.aload_n 1, 1) := by decide +kernel
theorem dX2_twins_28 : decode cX2_twins 28 = .ok (.iload_n 3, 1) := by decide +kernel
theorem dX2_twins_29 : decode cX2_twins 29 = .ok (.iload 4, 2) := by decide +kernel
theorem dX2_twins_31 : decode cX2_twins 31 = .ok (.invokevirtual 43, 3) := by decide +kernel
theorem dX2_twins_34 : decode cX2_twins 34 = .ok (.iadd, 1) := by decide +kernel
theorem dX2_twins_35 : decode cX2_twins 35 = .ok (.istore_n 2, 1) := by decide +kernel
theorem dX2_twins_36 : decode cX2_twins 36 = .ok (.iinc 4 1, 3) := by decide +kernel
theorem dX2_twins_39 : decode cX2_twins 39 = .ok (.goto (-24), 3) := by decide +kernel
theorem dX2_twins_42 : decode cX2_twins 42 = .ok (.iinc 3 1, 3) := by decide +kernel
theorem dX2_twins_45 : decode cX2_twins 45 = .ok (.goto (-41), 3) := by decide +kernel
theorem dX2_twins_48 : decode cX2_twins 48 = .ok (.iload_n 2, 1) := by decide +kernel
theorem dX2_twins_49 : decode cX2_twins 49 = .ok (.ireturn, 1) := by decide +kernel
theorem dX2_twinsAhead_0 : decode cX2_twinsAhead 0 = .ok (.iconst 0, 1) := by decide +kernel
theorem dX2_twinsAhead_1 : decode cX2_twinsAhead 1 = .ok (.istore 4, 2) := by decide +kernel
theorem dX2_twinsAhead_3 : decode cX2_twinsAhead 3 = .ok (.iconst 0, 1) := by decide +kernel
theorem dX2_twinsAhead_4 : decode cX2_twinsAhead 4 = .ok (.istore 5, 2) := by decide +kernel
theorem dX2_twinsAhead_6 : decode cX2_twinsAhead 6 = .ok (.iload 5, 2) := by decide +kernel
theorem dX2_twinsAhead_8 : decode cX2_twinsAhead 8 = .ok (.iload_n 2, 1) := by decide +kernel
theorem dX2_twinsAhead_9 : decode cX2_twinsAhead 9 = .ok (.if_icmp .gt 67, 3) := by decide +kernel
theorem dX2_twinsAhead_12 : decode cX2_twinsAhead 12 = .ok (.iload 5, 2) := by decide +kernel
theorem dX2_twinsAhead_14 : decode cX2_twinsAhead 14 = .ok (.iload_n 2, 1) := by decide +kernel
theorem dX2_twinsAhead_15 : decode cX2_twinsAhead 15 = .ok (.if_icmp .ne 7, 3) := by decide +kernel
theorem dX2_twinsAhead_18 : decode cX2_twinsAhead 18 = .ok (.iload_n 3, 1) := by decide +kernel
theorem dX2_twinsAhead_19 : decode cX2_twinsAhead 19 = .ok (.goto 9, 3) := by decide +kernel
theorem dX2_twinsAhead_22 : decode cX2_twinsAhead 22 = .ok (.aload_n 1, 1) := by decide +kernel
theorem dX2_twinsAhead_23 : decode cX2_twinsAhead 23 = .ok (.iload 5, 2) := by decide +kernel
theorem dX2_twinsAhead_25 : decode cX2_twinsAhead 25 = .ok (.invokevirtual 21, 3) := by decide +kernel
theorem dX2_twinsAhead_28 : decode cX2_twinsAhead 28 = .ok (.istore 6, 2) := by decide +kernel
theorem dX2_twinsAhead_30 : decode cX2_twinsAhead 30 = .ok (.iconst 0, 1) := by decide +kernel
theorem dX2_twinsAhead_31 : decode cX2_twinsAhead 31 = .ok (.istore 7, 2) := by decide +kernel
theorem dX2_twinsAhead_33 : decode cX2_twinsAhead 33 = .ok (.iload 7, 2) := by decide +kernel
theorem dX2_twinsAhead_35 : decode cX2_twinsAhead 35 = .ok (.iload 6, 2) := by decide +kernel
theorem dX2_twinsAhead_37 : decode cX2_twinsAhead 37 = .ok (.if_icmp .ge 33, 3) := by decide +kernel
theorem dX2_twinsAhead_40 : decode cX2_twinsAhead 40 = .ok (.iload 4, 2) := by decide +kernel
theorem dX2_twinsAhead_42 : decode cX2_twinsAhead 42 = .ok (.aload_n 0, 1) := by decide +kernel
theorem dX2_twinsAhead_43 : decode cX2_twinsAhead 43 = .ok (.aload_n 1, 1) := by decide +kernel
theorem dX2_twinsAhead_44 : decode cX2_twinsAhead 44 = .ok (.iload_n 2, 1) := by decide +kernel
theorem dX2_twinsAhead_45 : decode cX2_twinsAhead 45 = .ok (.iload_n 3, 1) := by decide +kernel
theorem dX2_twinsAhead_46 : decode cX2_twinsAhead 46 = .ok (.iload 5, 2) := by decide +kernel
theorem dX2_twinsAhead_48 : decode cX2_twinsAhead 48 = .ok (.iload 7, 2) := by decide +kernel
theorem dX2_twinsAhead_50 : decode cX2_twinsAhead 50 = .ok (.invokevirtual 47, 3) := by decide +kernel
theorem dX2_twinsAhead_53 : decode cX2_twinsAhead 53 = .ok (.ifCond .eq 7, 3) := by decide +kernel
theorem dX2_twinsAhead_56 : decode cX2_twinsAhead 56 = .ok (.iconst 1, 1) := by decide +kernel
theorem dX2_twinsAhead_57 : decode cX2_twinsAhead 57 = .ok (.goto 4, 3) := by decide +kernel
theorem dX2_twinsAhead_60 : decode cX2_twinsAhead 60 = .ok (.iconst 0, 1) := by decide +kernel
theorem dX2_twinsAhead_61 : decode cX2_twinsAhead 61 = .ok (.iadd, 1) := by decide +kernel
theorem dX2_twinsAhead_62 : decode cX2_twinsAhead 62 = .ok (.istore 4, 2) := by decide +kernel
theorem dX2_twinsAhead_64 : decode cX2_twinsAhead 64 = .ok (.iinc 7 1, 3) := by decide +kernel
theorem dX2_twinsAhead_67 : decode cX2_twinsAhead 67 = .ok (.goto (-34), 3) := by decide +kernel
theorem dX2_twinsAhead_70 : decode cX2_twinsAhead 70 = .ok (.iinc 5 1, 3) := by decide +kernel
theorem dX2_twinsAhead_73 : decode cX2_twinsAhead 73 = .ok (.goto (-67), 3) := by decide +kernel
theorem dX2_twinsAhead_76 : decode cX2_twinsAhead 76 = .ok (.iload 4, 2) := by decide +kernel
theorem dX2_twinsAhead_78 : decode cX2_twinsAhead 78 = .ok (.ireturn, 1) := by decide +kernel
theorem dX2_sameWords_0 : decode cX2_sameWords 0 = .ok (.aload_n 1, 1) := by decide +kernel
theorem dX2_sameWords_1 : decode cX2_sameWords 1 = .ok (.iload_n 2, 1) := by decide +kernel
theorem dX2_sameWords_2 : decode cX2_sameWords 2 = .ok (.iload_n 3, 1) := by decide +kernel
theorem dX2_sameWords_3 : decode cX2_sameWords 3 = .ok (.invokevirtual 25, 3) := by decide +kernel
theorem dX2_sameWords_6 : decode cX2_sameWords 6 = .ok (.istore 6, 2) := by decide +kernel
theorem dX2_sameWords_8 : decode cX2_sameWords 8 = .ok (.iload 6, 2) := by decide +kernel
theorem dX2_sameWords_10 : decode cX2_sameWords 10 = .ok (.aload_n 1, 1) := by decide +kernel
theorem dX2_sameWords_11 : decode cX2_sameWords 11 = .ok (.iload 4, 2) := by decide +kernel
theorem dX2_sameWords_13 : decode cX2_sameWords 13 = .ok (.iload 5, 2) := by decide +kernel
theorem dX2_sameWords_15 : decode cX2_sameWords 15 = .ok (.invokevirtual 25, 3) := by decide +kernel
theorem dX2_sameWords_18 : decode cX2_sameWords 18 = .ok (.if_icmp .eq 5, 3) := by decide +kernel
theorem dX2_sameWords_21 : decode cX2_sameWords 21 = .ok (.iconst 0, 1) := by decide +kernel
theorem dX2_sameWords_22 : decode cX2_sameWords 22 = .ok (.ireturn, 1) := by decide +kernel
theorem dX2_sameWords_23 : decode cX2_sameWords 23 = .ok (.iconst 0, 1) := by decide +kernel
theorem dX2_sameWords_24 : decode cX2_sameWords 24 = .ok (.istore 7, 2) := by decide +kernel
theorem dX2_sameWords_26 : decode cX2_sameWords 26 = .ok (.iload 7, 2) := by decide +kernel
theorem dX2_sameWords_28 : decode cX2_sameWords 28 = .ok (.iload 6, 2) := by decide +kernel
theorem dX2_sameWords_30 : decode cX2_sameWords 30 = .ok (.if_icmp .ge 32, 3) := by decide +kernel
theorem dX2_sameWords_33 : decode cX2_sameWords 33 = .ok (.aload_n 1, 1) := by decide +kernel
theorem dX2_sameWords_34 : decode cX2_sameWords 34 = .ok (.iload_n 2, 1) := by decide +kernel
theorem dX2_sameWords_35 : decode cX2_sameWords 35 = .ok (.iload_n 3, 1) := by decide +kernel
theorem dX2_sameWords_36 : decode cX2_sameWords 36 = .ok (.iload 7, 2) := by decide +kernel
theorem dX2_sameWords_38 : decode cX2_sameWords 38 = .ok (.invokevirtual 51, 3) := by decide +kernel
theorem dX2_sameWords_41 : decode cX2_sameWords 41 = .ok (.aload_n 1, 1) := by decide +kernel
theorem dX2_sameWords_42 : decode cX2_sameWords 42 = .ok (.iload 4, 2) := by decide +kernel
theorem dX2_sameWords_44 : decode cX2_sameWords 44 = .ok (.iload 5, 2) := by decide +kernel
theorem dX2_sameWords_46 : decode cX2_sameWords 46 = .ok (.iload 7, 2) := by decide +kernel
theorem dX2_sameWords_48 : decode cX2_sameWords 48 = .ok (.invokevirtual 51, 3) := by decide +kernel
theorem dX2_sameWords_51 : decode cX2_sameWords 51 = .ok (.if_icmp .eq 5, 3) := by decide +kernel
theorem dX2_sameWords_54 : decode cX2_sameWords 54 = .ok (.iconst 0, 1) := by decide +kernel
theorem dX2_sameWords_55 : decode cX2_sameWords 55 = .ok (.ireturn, 1) := by decide +kernel
theorem dX2_sameWords_56 : decode cX2_sameWords 56 = .ok (.iinc 7 1, 3) := by decide +kernel
theorem dX2_sameWords_59 : decode cX2_sameWords 59 = .ok (.goto (-33), 3) := by decide +kernel
theorem dX2_sameWords_62 : decode cX2_sameWords 62 = .ok (.iconst 1, 1) := by decide +kernel
theorem dX2_sameWords_63 : decode cX2_sameWords 63 = .ok (.ireturn, 1) := by decide +kernel
theorem dX2_passages_0 : decode cX2_passages 0 = .ok (.iconst 0, 1) := by decide +kernel
theorem dX2_passages_1 : decode cX2_passages 1 = .ok (.istore 4, 2) := by decide +kernel
theorem dX2_passages_3 : decode cX2_passages 3 = .ok (.iconst 0, 1) := by decide +kernel
theorem dX2_passages_4 : decode cX2_passages 4 = .ok (.istore 5, 2) := by decide +kernel
theorem dX2_passages_6 : decode cX2_passages 6 = .ok (.iconst 0, 1) := by decide +kernel
theorem dX2_passages_7 : decode cX2_passages 7 = .ok (.istore 6, 2) := by decide +kernel
theorem dX2_passages_9 : decode cX2_passages 9 = .ok (.iconst 0, 1) := by decide +kernel
theorem dX2_passages_10 : decode cX2_passages 10 = .ok (.istore 7, 2) := by decide +kernel
theorem dX2_passages_12 : decode cX2_passages 12 = .ok (.iload 7, 2) := by decide +kernel
theorem dX2_passages_14 : decode cX2_passages 14 = .ok (.aload_n 1, 1) := by decide +kernel
theorem dX2_passages_15 : decode cX2_passages 15 = .ok (.iload_n 2, 1) := by decide +kernel
theorem dX2_passages_16 : decode cX2_passages 16 = .ok (.invokevirtual 21, 3) := by decide +kernel
theorem dX2_passages_19 : decode cX2_passages 19 = .ok (.if_icmp .ge 128, 3) := by decide +kernel
theorem dX2_passages_22 : decode cX2_passages 22 = .ok (.iconst 0, 1) := by decide +kernel
theorem dX2_passages_23 : decode cX2_passages 23 = .ok (.istore 8, 2) := by decide +kernel
theorem dX2_passages_25 : decode cX2_passages 25 = .ok (.iload 8, 2) := by decide +kernel
theorem dX2_passages_27 : decode cX2_passages 27 = .ok (.aload_n 1, 1) := by decide +kernel
theorem dX2_passages_28 : decode cX2_passages 28 = .ok (.iload_n 2, 1) := by decide +kernel
theorem dX2_passages_29 : decode cX2_passages 29 = .ok (.iload 7, 2) := by decide +kernel
theorem dX2_passages_31 : decode cX2_passages 31 = .ok (.invokevirtual 25, 3) := by decide +kernel
theorem dX2_passages_34 : decode cX2_passages 34 = .ok (.if_icmp .ge 107, 3) := by decide +kernel
theorem dX2_passages_37 : decode cX2_passages 37 = .ok (.aload_n 1, 1) := by decide +kernel
theorem dX2_passages_38 : decode cX2_passages 38 = .ok (.iload_n 2, 1) := by decide +kernel
theorem dX2_passages_39 : decode cX2_passages 39 = .ok (.iload 7, 2) := by decide +kernel
theorem dX2_passages_41 : decode cX2_passages 41 = .ok (.iload 8, 2) := by decide +kernel
theorem dX2_passages_43 : decode cX2_passages 43 = .ok (.invokevirtual 55, 3) := by decide +kernel
theorem dX2_passages_46 : decode cX2_passages 46 = .ok (.istore 9, 2) := by decide +kernel
theorem dX2_passages_48 : decode cX2_passages 48 = .ok (.aload_n 1, 1) := by decide +kernel
theorem dX2_passages_49 : decode cX2_passages 49 = .ok (.iload 9, 2) := by decide +kernel
theorem dX2_passages_51 : decode cX2_passages 51 = .ok (.invokevirtual 32, 3) := by decide +kernel
theorem dX2_passages_54 : decode cX2_passages 54 = .ok (.invokestatic 58, 3) := by decide +kernel
theorem dX2_passages_57 : decode cX2_passages 57 = .ok (.iload 7, 2) := by decide +kernel
theorem dX2_passages_59 : decode cX2_passages 59 = .ok (.if_icmp .ne 76, 3) := by decide +kernel
theorem dX2_passages_62 : decode cX2_passages 62 = .ok (.iload 8, 2) := by decide +kernel
theorem dX2_passages_64 : decode cX2_passages 64 = .ok (.ifCond .le 29, 3) := by decide +kernel
theorem dX2_passages_67 : decode cX2_passages 67 = .ok (.aload_n 0, 1) := by decide +kernel
theorem dX2_passages_68 : decode cX2_passages 68 = .ok (.aload_n 1, 1) := by decide +kernel
theorem dX2_passages_69 : decode cX2_passages 69 = .ok (.iload_n 2, 1) := by decide +kernel
theorem dX2_passages_70 : decode cX2_passages 70 = .ok (.aload_n 1, 1) := by decide +kernel
theorem dX2_passages_71 : decode cX2_passages 71 = .ok (.iload_n 2, 1) := by decide +kernel
theorem dX2_passages_72 : decode cX2_passages 72 = .ok (.iload 7, 2) := by decide +kernel
theorem dX2_passages_74 : decode cX2_passages 74 = .ok (.iload 8, 2) := by decide +kernel
theorem dX2_passages_76 : decode cX2_passages 76 = .ok (.iconst 1, 1) := by decide +kernel
theorem dX2_passages_77 : decode cX2_passages 77 = .ok (.isub, 1) := by decide +kernel
theorem dX2_passages_78 : decode cX2_passages 78 = .ok (.invokevirtual 55, 3) := by decide +kernel
theorem dX2_passages_81 : decode cX2_passages 81 = .ok (.iload 9, 2) := by decide +kernel
theorem dX2_passages_83 : decode cX2_passages 83 = .ok (.invokevirtual 61, 3) := by decide +kernel
theorem dX2_passages_86 : decode cX2_passages 86 = .ok (.ifCond .eq 7, 3) := by decide +kernel
theorem dX2_passages_89 : decode cX2_passages 89 = .ok (.iconst 1, 1) := by decide +kernel
theorem dX2_passages_90 : decode cX2_passages 90 = .ok (.goto 4, 3) := by decide +kernel
theorem dX2_passages_93 : decode cX2_passages 93 = .ok (.iconst 0, 1) := by decide +kernel
theorem dX2_passages_94 : decode cX2_passages 94 = .ok (.istore 10, 2) := by decide +kernel
theorem dX2_passages_96 : decode cX2_passages 96 = .ok (.iload 4, 2) := by decide +kernel
theorem dX2_passages_98 : decode cX2_passages 98 = .ok (.iload 10, 2) := by decide +kernel
theorem dX2_passages_100 : decode cX2_passages 100 = .ok (.ifCond .eq 7, 3) := by decide +kernel
theorem dX2_passages_103 : decode cX2_passages 103 = .ok (.iconst 0, 1) := by decide +kernel
theorem dX2_passages_104 : decode cX2_passages 104 = .ok (.goto 4, 3) := by decide +kernel
theorem dX2_passages_107 : decode cX2_passages 107 = .ok (.iconst 1, 1) := by decide +kernel
theorem dX2_passages_108 : decode cX2_passages 108 = .ok (.iadd, 1) := by decide +kernel
theorem dX2_passages_109 : decode cX2_passages 109 = .ok (.istore 4, 2) := by decide +kernel
theorem dX2_passages_111 : decode cX2_passages 111 = .ok (.iload 10, 2) := by decide +kernel
theorem dX2_passages_113 : decode cX2_passages 113 = .ok (.ifCond .eq 10, 3) := by decide +kernel
theorem dX2_passages_116 : decode cX2_passages 116 = .ok (.iload 5, 2) := by decide +kernel
theorem dX2_passages_118 : decode cX2_passages 118 = .ok (.iconst 1, 1) := by decide +kernel
theorem dX2_passages_119 : decode cX2_passages 119 = .ok (.iadd, 1) := by decide +kernel
theorem dX2_passages_120 : decode cX2_passages 120 = .ok (.goto 4, 3) := by decide +kernel
theorem dX2_passages_123 : decode cX2_passages 123 = .ok (.iconst 1, 1) := by decide +kernel
theorem dX2_passages_124 : decode cX2_passages 124 = .ok (.istore 5, 2) := by decide +kernel
theorem dX2_passages_126 : decode cX2_passages 126 = .ok (.iload 6, 2) := by decide +kernel
theorem dX2_passages_128 : decode cX2_passages 128 = .ok (.iload 5, 2) := by decide +kernel
theorem dX2_passages_130 : decode cX2_passages 130 = .ok (.invokestatic 65, 3) := by decide +kernel
theorem dX2_passages_133 : decode cX2_passages 133 = .ok (.istore 6, 2) := by decide +kernel
theorem dX2_passages_135 : decode cX2_passages 135 = .ok (.iinc 8 1, 3) := by decide +kernel
theorem dX2_passages_138 : decode cX2_passages 138 = .ok (.goto (-113), 3) := by decide +kernel
theorem dX2_passages_141 : decode cX2_passages 141 = .ok (.iinc 7 1, 3) := by decide +kernel
theorem dX2_passages_144 : decode cX2_passages 144 = .ok (.goto (-132), 3) := by decide +kernel
theorem dX2_passages_147 : decode cX2_passages 147 = .ok (.iload_n 3, 1) := by decide +kernel
theorem dX2_passages_148 : decode cX2_passages 148 = .ok (.ifCond .eq 8, 3) := by decide +kernel
theorem dX2_passages_151 : decode cX2_passages 151 = .ok (.iload 6, 2) := by decide +kernel
theorem dX2_passages_153 : decode cX2_passages 153 = .ok (.goto 5, 3) := by decide +kernel
theorem dX2_passages_156 : decode cX2_passages 156 = .ok (.iload 4, 2) := by decide +kernel
theorem dX2_passages_158 : decode cX2_passages 158 = .ok (.ireturn, 1) := by decide +kernel
theorem dX2_stayTogether_0 : decode cX2_stayTogether 0 = .ok (.aload_n 1, 1) := by decide +kernel
theorem dX2_stayTogether_1 : decode cX2_stayTogether 1 = .ok (.iload_n 3, 1) := by decide +kernel
theorem dX2_stayTogether_2 : decode cX2_stayTogether 2 = .ok (.invokevirtual 32, 3) := by decide +kernel
theorem dX2_stayTogether_5 : decode cX2_stayTogether 5 = .ok (.istore 5, 2) := by decide +kernel
theorem dX2_stayTogether_7 : decode cX2_stayTogether 7 = .ok (.iload 5, 2) := by decide +kernel
theorem dX2_stayTogether_9 : decode cX2_stayTogether 9 = .ok (.aload_n 1, 1) := by decide +kernel
theorem dX2_stayTogether_10 : decode cX2_stayTogether 10 = .ok (.iload 4, 2) := by decide +kernel
theorem dX2_stayTogether_12 : decode cX2_stayTogether 12 = .ok (.invokevirtual 32, 3) := by decide +kernel
theorem dX2_stayTogether_15 : decode cX2_stayTogether 15 = .ok (.if_icmp .eq 5, 3) := by decide +kernel
theorem dX2_stayTogether_18 : decode cX2_stayTogether 18 = .ok (.iconst 0, 1) := by decide +kernel
theorem dX2_stayTogether_19 : decode cX2_stayTogether 19 = .ok (.ireturn, 1) := by decide +kernel
theorem dX2_stayTogether_20 : decode cX2_stayTogether 20 = .ok (.iconst 0, 1) := by decide +kernel
theorem dX2_stayTogether_21 : decode cX2_stayTogether 21 = .ok (.istore 6, 2) := by decide +kernel
theorem dX2_stayTogether_23 : decode cX2_stayTogether 23 = .ok (.iload 6, 2) := by decide +kernel
theorem dX2_stayTogether_25 : decode cX2_stayTogether 25 = .ok (.aload_n 1, 1) := by decide +kernel
theorem dX2_stayTogether_26 : decode cX2_stayTogether 26 = .ok (.iload_n 2, 1) := by decide +kernel
theorem dX2_stayTogether_27 : decode cX2_stayTogether 27 = .ok (.invokevirtual 21, 3) := by decide +kernel
theorem dX2_stayTogether_30 : decode cX2_stayTogether 30 = .ok (.if_icmp .ge 46, 3) := by decide +kernel
theorem dX2_stayTogether_33 : decode cX2_stayTogether 33 = .ok (.iload 5, 2) := by decide +kernel
theorem dX2_stayTogether_35 : decode cX2_stayTogether 35 = .ok (.iload 6, 2) := by decide +kernel
theorem dX2_stayTogether_37 : decode cX2_stayTogether 37 = .ok (.invokestatic 70, 3) := by decide +kernel
theorem dX2_stayTogether_40 : decode cX2_stayTogether 40 = .ok (.iconst 1, 1) := by decide +kernel
theorem dX2_stayTogether_41 : decode cX2_stayTogether 41 = .ok (.if_icmp .ne 29, 3) := by decide +kernel
theorem dX2_stayTogether_44 : decode cX2_stayTogether 44 = .ok (.aload_n 0, 1) := by decide +kernel
theorem dX2_stayTogether_45 : decode cX2_stayTogether 45 = .ok (.aload_n 1, 1) := by decide +kernel
theorem dX2_stayTogether_46 : decode cX2_stayTogether 46 = .ok (.iload_n 2, 1) := by decide +kernel
theorem dX2_stayTogether_47 : decode cX2_stayTogether 47 = .ok (.iload 6, 2) := by decide +kernel
theorem dX2_stayTogether_49 : decode cX2_stayTogether 49 = .ok (.iload_n 3, 1) := by decide +kernel
theorem dX2_stayTogether_50 : decode cX2_stayTogether 50 = .ok (.invokevirtual 73, 3) := by decide +kernel
theorem dX2_stayTogether_53 : decode cX2_stayTogether 53 = .ok (.iconst 1, 1) := by decide +kernel
theorem dX2_stayTogether_54 : decode cX2_stayTogether 54 = .ok (.iadd, 1) := by decide +kernel
theorem dX2_stayTogether_55 : decode cX2_stayTogether 55 = .ok (.aload_n 0, 1) := by decide +kernel
theorem dX2_stayTogether_56 : decode cX2_stayTogether 56 = .ok (.aload_n 1, 1) := by decide +kernel
theorem dX2_stayTogether_57 : decode cX2_stayTogether 57 = .ok (.iload_n 2, 1) := by decide +kernel
theorem dX2_stayTogether_58 : decode cX2_stayTogether 58 = .ok (.iload 6, 2) := by decide +kernel
theorem dX2_stayTogether_60 : decode cX2_stayTogether 60 = .ok (.iload 4, 2) := by decide +kernel
theorem dX2_stayTogether_62 : decode cX2_stayTogether 62 = .ok (.invokevirtual 73, 3) := by decide +kernel
theorem dX2_stayTogether_65 : decode cX2_stayTogether 65 = .ok (.if_icmp .eq 5, 3) := by decide +kernel
theorem dX2_stayTogether_68 : decode cX2_stayTogether 68 = .ok (.iconst 0, 1) := by decide +kernel
theorem dX2_stayTogether_69 : decode cX2_stayTogether 69 = .ok (.ireturn, 1) := by decide +kernel
theorem dX2_stayTogether_70 : decode cX2_stayTogether 70 = .ok (.iinc 6 1, 3) := by decide +kernel
theorem dX2_stayTogether_73 : decode cX2_stayTogether 73 = .ok (.goto (-50), 3) := by decide +kernel
theorem dX2_stayTogether_76 : decode cX2_stayTogether 76 = .ok (.iconst 1, 1) := by decide +kernel
theorem dX2_stayTogether_77 : decode cX2_stayTogether 77 = .ok (.ireturn, 1) := by decide +kernel
theorem dX2_placeOf_0 : decode cX2_placeOf 0 = .ok (.iconst 0, 1) := by decide +kernel
theorem dX2_placeOf_1 : decode cX2_placeOf 1 = .ok (.istore 5, 2) := by decide +kernel
theorem dX2_placeOf_3 : decode cX2_placeOf 3 = .ok (.iload 5, 2) := by decide +kernel
theorem dX2_placeOf_5 : decode cX2_placeOf 5 = .ok (.aload_n 1, 1) := by decide +kernel
theorem dX2_placeOf_6 : decode cX2_placeOf 6 = .ok (.iload_n 2, 1) := by decide +kernel
theorem dX2_placeOf_7 : decode cX2_placeOf 7 = .ok (.iload_n 3, 1) := by decide +kernel
theorem dX2_placeOf_8 : decode cX2_placeOf 8 = .ok (.invokevirtual 25, 3) := by decide +kernel
theorem dX2_placeOf_11 : decode cX2_placeOf 11 = .ok (.if_icmp .ge 25, 3) := by decide +kernel
theorem dX2_placeOf_14 : decode cX2_placeOf 14 = .ok (.aload_n 1, 1) := by decide +kernel
theorem dX2_placeOf_15 : decode cX2_placeOf 15 = .ok (.iload_n 2, 1) := by decide +kernel
theorem dX2_placeOf_16 : decode cX2_placeOf 16 = .ok (.iload_n 3, 1) := by decide +kernel
theorem dX2_placeOf_17 : decode cX2_placeOf 17 = .ok (.iload 5, 2) := by decide +kernel
theorem dX2_placeOf_19 : decode cX2_placeOf 19 = .ok (.invokevirtual 55, 3) := by decide +kernel
theorem dX2_placeOf_22 : decode cX2_placeOf 22 = .ok (.iload 4, 2) := by decide +kernel
theorem dX2_placeOf_24 : decode cX2_placeOf 24 = .ok (.if_icmp .ne 6, 3) := by decide +kernel
theorem dX2_placeOf_27 : decode cX2_placeOf 27 = .ok (.iload 5, 2) := by decide +kernel
theorem dX2_placeOf_29 : decode cX2_placeOf 29 = .ok (.ireturn, 1) := by decide +kernel
theorem dX2_placeOf_30 : decode cX2_placeOf 30 = .ok (.iinc 5 1, 3) := by decide +kernel
theorem dX2_placeOf_33 : decode cX2_placeOf 33 = .ok (.goto (-30), 3) := by decide +kernel
theorem dX2_placeOf_36 : decode cX2_placeOf 36 = .ok (.iconst (-1), 1) := by decide +kernel
theorem dX2_placeOf_37 : decode cX2_placeOf 37 = .ok (.ireturn, 1) := by decide +kernel
theorem dX2_kept_0 : decode cX2_kept 0 = .ok (.iconst 0, 1) := by decide +kernel
theorem dX2_kept_1 : decode cX2_kept 1 = .ok (.istore_n 3, 1) := by decide +kernel
theorem dX2_kept_2 : decode cX2_kept 2 = .ok (.iconst 0, 1) := by decide +kernel
theorem dX2_kept_3 : decode cX2_kept 3 = .ok (.istore 4, 2) := by decide +kernel
theorem dX2_kept_5 : decode cX2_kept 5 = .ok (.iload 4, 2) := by decide +kernel
theorem dX2_kept_7 : decode cX2_kept 7 = .ok (.aload_n 1, 1) := by decide +kernel
theorem dX2_kept_8 : decode cX2_kept 8 = .ok (.getfield 29, 3) := by decide +kernel
theorem dX2_kept_11 : decode cX2_kept 11 = .ok (.if_icmp .ge 53, 3) := by decide +kernel
theorem dX2_kept_14 : decode cX2_kept 14 = .ok (.aload_n 1, 1) := by decide +kernel
theorem dX2_kept_15 : decode cX2_kept 15 = .ok (.iload 4, 2) := by decide +kernel
theorem dX2_kept_17 : decode cX2_kept 17 = .ok (.invokevirtual 77, 3) := by decide +kernel
theorem dX2_kept_20 : decode cX2_kept 20 = .ok (.iload_n 2, 1) := by decide +kernel
theorem dX2_kept_21 : decode cX2_kept 21 = .ok (.if_icmp .ne 7, 3) := by decide +kernel
theorem dX2_kept_24 : decode cX2_kept 24 = .ok (.iconst 1, 1) := by decide +kernel
theorem dX2_kept_25 : decode cX2_kept 25 = .ok (.goto 4, 3) := by decide +kernel
theorem dX2_kept_28 : decode cX2_kept 28 = .ok (.iconst 0, 1) := by decide +kernel
theorem dX2_kept_29 : decode cX2_kept 29 = .ok (.istore 5, 2) := by decide +kernel
theorem dX2_kept_31 : decode cX2_kept 31 = .ok (.iload_n 3, 1) := by decide +kernel
theorem dX2_kept_32 : decode cX2_kept 32 = .ok (.iload 5, 2) := by decide +kernel
theorem dX2_kept_34 : decode cX2_kept 34 = .ok (.ifCond .eq 21, 3) := by decide +kernel
theorem dX2_kept_37 : decode cX2_kept 37 = .ok (.aload_n 1, 1) := by decide +kernel
theorem dX2_kept_38 : decode cX2_kept 38 = .ok (.iload 4, 2) := by decide +kernel
theorem dX2_kept_40 : decode cX2_kept 40 = .ok (.invokevirtual 32, 3) := by decide +kernel
theorem dX2_kept_43 : decode cX2_kept 43 = .ok (.aload_n 1, 1) := by decide +kernel
theorem dX2_kept_44 : decode cX2_kept 44 = .ok (.iload_n 2, 1) := by decide +kernel
theorem dX2_kept_45 : decode cX2_kept 45 = .ok (.invokevirtual 80, 3) := by decide +kernel
theorem dX2_kept_48 : decode cX2_kept 48 = .ok (.if_icmp .ne 7, 3) := by decide +kernel
theorem dX2_kept_51 : decode cX2_kept 51 = .ok (.iconst 1, 1) := by decide +kernel
theorem dX2_kept_52 : decode cX2_kept 52 = .ok (.goto 4, 3) := by decide +kernel
theorem dX2_kept_55 : decode cX2_kept 55 = .ok (.iconst 0, 1) := by decide +kernel
theorem dX2_kept_56 : decode cX2_kept 56 = .ok (.iadd, 1) := by decide +kernel
theorem dX2_kept_57 : decode cX2_kept 57 = .ok (.istore_n 3, 1) := by decide +kernel
theorem dX2_kept_58 : decode cX2_kept 58 = .ok (.iinc 4 1, 3) := by decide +kernel
theorem dX2_kept_61 : decode cX2_kept 61 = .ok (.goto (-56), 3) := by decide +kernel
theorem dX2_kept_64 : decode cX2_kept 64 = .ok (.iload_n 3, 1) := by decide +kernel
theorem dX2_kept_65 : decode cX2_kept 65 = .ok (.ireturn, 1) := by decide +kernel
theorem dX2_returns_0 : decode cX2_returns 0 = .ok (.iconst 0, 1) := by decide +kernel
theorem dX2_returns_1 : decode cX2_returns 1 = .ok (.istore_n 3, 1) := by decide +kernel
theorem dX2_returns_2 : decode cX2_returns 2 = .ok (.iconst 2, 1) := by decide +kernel
theorem dX2_returns_3 : decode cX2_returns 3 = .ok (.istore 4, 2) := by decide +kernel
theorem dX2_returns_5 : decode cX2_returns 5 = .ok (.iload 4, 2) := by decide +kernel
theorem dX2_returns_7 : decode cX2_returns 7 = .ok (.aload_n 1, 1) := by decide +kernel
theorem dX2_returns_8 : decode cX2_returns 8 = .ok (.iload_n 2, 1) := by decide +kernel
theorem dX2_returns_9 : decode cX2_returns 9 = .ok (.invokevirtual 21, 3) := by decide +kernel
theorem dX2_returns_12 : decode cX2_returns 12 = .ok (.if_icmp .ge 56, 3) := by decide +kernel
theorem dX2_returns_15 : decode cX2_returns 15 = .ok (.aload_n 0, 1) := by decide +kernel
theorem dX2_returns_16 : decode cX2_returns 16 = .ok (.aload_n 1, 1) := by decide +kernel
theorem dX2_returns_17 : decode cX2_returns 17 = .ok (.iload_n 2, 1) := by decide +kernel
theorem dX2_returns_18 : decode cX2_returns 18 = .ok (.iload 4, 2) := by decide +kernel
theorem dX2_returns_20 : decode cX2_returns 20 = .ok (.iload_n 2, 1) := by decide +kernel
theorem dX2_returns_21 : decode cX2_returns 21 = .ok (.iload 4, 2) := by decide +kernel
theorem dX2_returns_23 : decode cX2_returns 23 = .ok (.iconst 1, 1) := by decide +kernel
theorem dX2_returns_24 : decode cX2_returns 24 = .ok (.isub, 1) := by decide +kernel
theorem dX2_returns_25 : decode cX2_returns 25 = .ok (.invokevirtual 47, 3) := by decide +kernel
theorem dX2_returns_28 : decode cX2_returns 28 = .ok (.ifCond .ne 7, 3) := by decide +kernel
theorem dX2_returns_31 : decode cX2_returns 31 = .ok (.iconst 1, 1) := by decide +kernel
theorem dX2_returns_32 : decode cX2_returns 32 = .ok (.goto 4, 3) := by decide +kernel
theorem dX2_returns_35 : decode cX2_returns 35 = .ok (.iconst 0, 1) := by decide +kernel
theorem dX2_returns_36 : decode cX2_returns 36 = .ok (.istore 5, 2) := by decide +kernel
theorem dX2_returns_38 : decode cX2_returns 38 = .ok (.iload_n 3, 1) := by decide +kernel
theorem dX2_returns_39 : decode cX2_returns 39 = .ok (.iload 5, 2) := by decide +kernel
theorem dX2_returns_41 : decode cX2_returns 41 = .ok (.ifCond .eq 18, 3) := by decide +kernel
theorem dX2_returns_44 : decode cX2_returns 44 = .ok (.aload_n 0, 1) := by decide +kernel
theorem dX2_returns_45 : decode cX2_returns 45 = .ok (.aload_n 1, 1) := by decide +kernel
theorem dX2_returns_46 : decode cX2_returns 46 = .ok (.iload_n 2, 1) := by decide +kernel
theorem dX2_returns_47 : decode cX2_returns 47 = .ok (.iload 4, 2) := by decide +kernel
theorem dX2_returns_49 : decode cX2_returns 49 = .ok (.invokevirtual 83, 3) := by decide +kernel
theorem dX2_returns_52 : decode cX2_returns 52 = .ok (.ifCond .eq 7, 3) := by decide +kernel
theorem dX2_returns_55 : decode cX2_returns 55 = .ok (.iconst 1, 1) := by decide +kernel
theorem dX2_returns_56 : decode cX2_returns 56 = .ok (.goto 4, 3) := by decide +kernel
theorem dX2_returns_59 : decode cX2_returns 59 = .ok (.iconst 0, 1) := by decide +kernel
theorem dX2_returns_60 : decode cX2_returns 60 = .ok (.iadd, 1) := by decide +kernel
theorem dX2_returns_61 : decode cX2_returns 61 = .ok (.istore_n 3, 1) := by decide +kernel
theorem dX2_returns_62 : decode cX2_returns 62 = .ok (.iinc 4 1, 3) := by decide +kernel
theorem dX2_returns_65 : decode cX2_returns 65 = .ok (.goto (-60), 3) := by decide +kernel
theorem dX2_returns_68 : decode cX2_returns 68 = .ok (.iload_n 3, 1) := by decide +kernel
theorem dX2_returns_69 : decode cX2_returns 69 = .ok (.ireturn, 1) := by decide +kernel
theorem dX2_wasBefore_0 : decode cX2_wasBefore 0 = .ok (.iconst 0, 1) := by decide +kernel
theorem dX2_wasBefore_1 : decode cX2_wasBefore 1 = .ok (.istore 4, 2) := by decide +kernel
theorem dX2_wasBefore_3 : decode cX2_wasBefore 3 = .ok (.iload 4, 2) := by decide +kernel
theorem dX2_wasBefore_5 : decode cX2_wasBefore 5 = .ok (.iload_n 3, 1) := by decide +kernel
theorem dX2_wasBefore_6 : decode cX2_wasBefore 6 = .ok (.if_icmp .ge 24, 3) := by decide +kernel
theorem dX2_wasBefore_9 : decode cX2_wasBefore 9 = .ok (.aload_n 0, 1) := by decide +kernel
theorem dX2_wasBefore_10 : decode cX2_wasBefore 10 = .ok (.aload_n 1, 1) := by decide +kernel
theorem dX2_wasBefore_11 : decode cX2_wasBefore 11 = .ok (.iload_n 2, 1) := by decide +kernel
theorem dX2_wasBefore_12 : decode cX2_wasBefore 12 = .ok (.iload_n 3, 1) := by decide +kernel
theorem dX2_wasBefore_13 : decode cX2_wasBefore 13 = .ok (.iload_n 2, 1) := by decide +kernel
theorem dX2_wasBefore_14 : decode cX2_wasBefore 14 = .ok (.iload 4, 2) := by decide +kernel
theorem dX2_wasBefore_16 : decode cX2_wasBefore 16 = .ok (.invokevirtual 47, 3) := by decide +kernel
theorem dX2_wasBefore_19 : decode cX2_wasBefore 19 = .ok (.ifCond .eq 5, 3) := by decide +kernel
theorem dX2_wasBefore_22 : decode cX2_wasBefore 22 = .ok (.iconst 1, 1) := by decide +kernel
theorem dX2_wasBefore_23 : decode cX2_wasBefore 23 = .ok (.ireturn, 1) := by decide +kernel
theorem dX2_wasBefore_24 : decode cX2_wasBefore 24 = .ok (.iinc 4 1, 3) := by decide +kernel
theorem dX2_wasBefore_27 : decode cX2_wasBefore 27 = .ok (.goto (-24), 3) := by decide +kernel
theorem dX2_wasBefore_30 : decode cX2_wasBefore 30 = .ok (.iconst 0, 1) := by decide +kernel
theorem dX2_wasBefore_31 : decode cX2_wasBefore 31 = .ok (.ireturn, 1) := by decide +kernel
theorem dX2_fresh_0 : decode cX2_fresh 0 = .ok (.iconst 0, 1) := by decide +kernel
theorem dX2_fresh_1 : decode cX2_fresh 1 = .ok (.istore 4, 2) := by decide +kernel
theorem dX2_fresh_3 : decode cX2_fresh 3 = .ok (.iconst 0, 1) := by decide +kernel
theorem dX2_fresh_4 : decode cX2_fresh 4 = .ok (.istore 5, 2) := by decide +kernel
theorem dX2_fresh_6 : decode cX2_fresh 6 = .ok (.iload 5, 2) := by decide +kernel
theorem dX2_fresh_8 : decode cX2_fresh 8 = .ok (.aload_n 1, 1) := by decide +kernel
theorem dX2_fresh_9 : decode cX2_fresh 9 = .ok (.iload_n 2, 1) := by decide +kernel
theorem dX2_fresh_10 : decode cX2_fresh 10 = .ok (.iload_n 3, 1) := by decide +kernel
theorem dX2_fresh_11 : decode cX2_fresh 11 = .ok (.invokevirtual 25, 3) := by decide +kernel
theorem dX2_fresh_14 : decode cX2_fresh 14 = .ok (.if_icmp .ge 42, 3) := by decide +kernel
theorem dX2_fresh_17 : decode cX2_fresh 17 = .ok (.aload_n 1, 1) := by decide +kernel
theorem dX2_fresh_18 : decode cX2_fresh 18 = .ok (.aload_n 1, 1) := by decide +kernel
theorem dX2_fresh_19 : decode cX2_fresh 19 = .ok (.iload_n 2, 1) := by decide +kernel
theorem dX2_fresh_20 : decode cX2_fresh 20 = .ok (.iload_n 3, 1) := by decide +kernel
theorem dX2_fresh_21 : decode cX2_fresh 21 = .ok (.iload 5, 2) := by decide +kernel
theorem dX2_fresh_23 : decode cX2_fresh 23 = .ok (.invokevirtual 55, 3) := by decide +kernel
theorem dX2_fresh_26 : decode cX2_fresh 26 = .ok (.invokevirtual 32, 3) := by decide +kernel
theorem dX2_fresh_29 : decode cX2_fresh 29 = .ok (.istore 6, 2) := by decide +kernel
theorem dX2_fresh_31 : decode cX2_fresh 31 = .ok (.iload 4, 2) := by decide +kernel
theorem dX2_fresh_33 : decode cX2_fresh 33 = .ok (.iload 6, 2) := by decide +kernel
theorem dX2_fresh_35 : decode cX2_fresh 35 = .ok (.invokestatic 58, 3) := by decide +kernel
theorem dX2_fresh_38 : decode cX2_fresh 38 = .ok (.iload_n 3, 1) := by decide +kernel
theorem dX2_fresh_39 : decode cX2_fresh 39 = .ok (.if_icmp .ne 7, 3) := by decide +kernel
theorem dX2_fresh_42 : decode cX2_fresh 42 = .ok (.iconst 1, 1) := by decide +kernel
theorem dX2_fresh_43 : decode cX2_fresh 43 = .ok (.goto 4, 3) := by decide +kernel
theorem dX2_fresh_46 : decode cX2_fresh 46 = .ok (.iconst 0, 1) := by decide +kernel
theorem dX2_fresh_47 : decode cX2_fresh 47 = .ok (.iadd, 1) := by decide +kernel
theorem dX2_fresh_48 : decode cX2_fresh 48 = .ok (.istore 4, 2) := by decide +kernel
theorem dX2_fresh_50 : decode cX2_fresh 50 = .ok (.iinc 5 1, 3) := by decide +kernel
theorem dX2_fresh_53 : decode cX2_fresh 53 = .ok (.goto (-47), 3) := by decide +kernel
theorem dX2_fresh_56 : decode cX2_fresh 56 = .ok (.iload 4, 2) := by decide +kernel
theorem dX2_fresh_58 : decode cX2_fresh 58 = .ok (.ireturn, 1) := by decide +kernel
theorem dX2_lost_0 : decode cX2_lost 0 = .ok (.iload_n 3, 1) := by decide +kernel
theorem dX2_lost_1 : decode cX2_lost 1 = .ok (.ifCond .ne 5, 3) := by decide +kernel
theorem dX2_lost_4 : decode cX2_lost 4 = .ok (.iconst 0, 1) := by decide +kernel
theorem dX2_lost_5 : decode cX2_lost 5 = .ok (.ireturn, 1) := by decide +kernel
theorem dX2_lost_6 : decode cX2_lost 6 = .ok (.aload_n 1, 1) := by decide +kernel
theorem dX2_lost_7 : decode cX2_lost 7 = .ok (.iload_n 2, 1) := by decide +kernel
theorem dX2_lost_8 : decode cX2_lost 8 = .ok (.iload_n 3, 1) := by decide +kernel
theorem dX2_lost_9 : decode cX2_lost 9 = .ok (.iconst 1, 1) := by decide +kernel
theorem dX2_lost_10 : decode cX2_lost 10 = .ok (.isub, 1) := by decide +kernel
theorem dX2_lost_11 : decode cX2_lost 11 = .ok (.invokevirtual 25, 3) := by decide +kernel
theorem dX2_lost_14 : decode cX2_lost 14 = .ok (.aload_n 0, 1) := by decide +kernel
theorem dX2_lost_15 : decode cX2_lost 15 = .ok (.aload_n 1, 1) := by decide +kernel
theorem dX2_lost_16 : decode cX2_lost 16 = .ok (.iload_n 2, 1) := by decide +kernel
theorem dX2_lost_17 : decode cX2_lost 17 = .ok (.iload_n 3, 1) := by decide +kernel
theorem dX2_lost_18 : decode cX2_lost 18 = .ok (.iconst 1, 1) := by decide +kernel
theorem dX2_lost_19 : decode cX2_lost 19 = .ok (.isub, 1) := by decide +kernel
theorem dX2_lost_20 : decode cX2_lost 20 = .ok (.iload_n 3, 1) := by decide +kernel
theorem dX2_lost_21 : decode cX2_lost 21 = .ok (.invokevirtual 87, 3) := by decide +kernel
theorem dX2_lost_24 : decode cX2_lost 24 = .ok (.isub, 1) := by decide +kernel
theorem dX2_lost_25 : decode cX2_lost 25 = .ok (.ireturn, 1) := by decide +kernel
theorem dX2_inBoth_0 : decode cX2_inBoth 0 = .ok (.iconst 0, 1) := by decide +kernel
theorem dX2_inBoth_1 : decode cX2_inBoth 1 = .ok (.istore 5, 2) := by decide +kernel
theorem dX2_inBoth_3 : decode cX2_inBoth 3 = .ok (.iconst 0, 1) := by decide +kernel
theorem dX2_inBoth_4 : decode cX2_inBoth 4 = .ok (.istore 6, 2) := by decide +kernel
theorem dX2_inBoth_6 : decode cX2_inBoth 6 = .ok (.iload 6, 2) := by decide +kernel
theorem dX2_inBoth_8 : decode cX2_inBoth 8 = .ok (.aload_n 1, 1) := by decide +kernel
theorem dX2_inBoth_9 : decode cX2_inBoth 9 = .ok (.iload_n 2, 1) := by decide +kernel
theorem dX2_inBoth_10 : decode cX2_inBoth 10 = .ok (.iload_n 3, 1) := by decide +kernel
theorem dX2_inBoth_11 : decode cX2_inBoth 11 = .ok (.invokevirtual 25, 3) := by decide +kernel
theorem dX2_inBoth_14 : decode cX2_inBoth 14 = .ok (.if_icmp .ge 31, 3) := by decide +kernel
theorem dX2_inBoth_17 : decode cX2_inBoth 17 = .ok (.iload 5, 2) := by decide +kernel
theorem dX2_inBoth_19 : decode cX2_inBoth 19 = .ok (.aload_n 1, 1) := by decide +kernel
theorem dX2_inBoth_20 : decode cX2_inBoth 20 = .ok (.aload_n 1, 1) := by decide +kernel
theorem dX2_inBoth_21 : decode cX2_inBoth 21 = .ok (.iload_n 2, 1) := by decide +kernel
theorem dX2_inBoth_22 : decode cX2_inBoth 22 = .ok (.iload_n 3, 1) := by decide +kernel
theorem dX2_inBoth_23 : decode cX2_inBoth 23 = .ok (.iload 6, 2) := by decide +kernel
theorem dX2_inBoth_25 : decode cX2_inBoth 25 = .ok (.invokevirtual 55, 3) := by decide +kernel
theorem dX2_inBoth_28 : decode cX2_inBoth 28 = .ok (.invokevirtual 32, 3) := by decide +kernel
theorem dX2_inBoth_31 : decode cX2_inBoth 31 = .ok (.iload 4, 2) := by decide +kernel
theorem dX2_inBoth_33 : decode cX2_inBoth 33 = .ok (.invokestatic 70, 3) := by decide +kernel
theorem dX2_inBoth_36 : decode cX2_inBoth 36 = .ok (.iadd, 1) := by decide +kernel
theorem dX2_inBoth_37 : decode cX2_inBoth 37 = .ok (.istore 5, 2) := by decide +kernel
theorem dX2_inBoth_39 : decode cX2_inBoth 39 = .ok (.iinc 6 1, 3) := by decide +kernel
theorem dX2_inBoth_42 : decode cX2_inBoth 42 = .ok (.goto (-36), 3) := by decide +kernel
theorem dX2_inBoth_45 : decode cX2_inBoth 45 = .ok (.iload 5, 2) := by decide +kernel
theorem dX2_inBoth_47 : decode cX2_inBoth 47 = .ok (.ireturn, 1) := by decide +kernel
theorem dX2_turned_0 : decode cX2_turned 0 = .ok (.iconst 0, 1) := by decide +kernel
theorem dX2_turned_1 : decode cX2_turned 1 = .ok (.istore 4, 2) := by decide +kernel
theorem dX2_turned_3 : decode cX2_turned 3 = .ok (.iconst 0, 1) := by decide +kernel
theorem dX2_turned_4 : decode cX2_turned 4 = .ok (.istore 5, 2) := by decide +kernel
theorem dX2_turned_6 : decode cX2_turned 6 = .ok (.iload 5, 2) := by decide +kernel
theorem dX2_turned_8 : decode cX2_turned 8 = .ok (.aload_n 1, 1) := by decide +kernel
theorem dX2_turned_9 : decode cX2_turned 9 = .ok (.iload_n 2, 1) := by decide +kernel
theorem dX2_turned_10 : decode cX2_turned 10 = .ok (.iload_n 3, 1) := by decide +kernel
theorem dX2_turned_11 : decode cX2_turned 11 = .ok (.invokevirtual 25, 3) := by decide +kernel
theorem dX2_turned_14 : decode cX2_turned 14 = .ok (.if_icmp .ge 90, 3) := by decide +kernel
theorem dX2_turned_17 : decode cX2_turned 17 = .ok (.iload_n 3, 1) := by decide +kernel
theorem dX2_turned_18 : decode cX2_turned 18 = .ok (.ifCond .le 86, 3) := by decide +kernel
theorem dX2_turned_21 : decode cX2_turned 21 = .ok (.aload_n 0, 1) := by decide +kernel
theorem dX2_turned_22 : decode cX2_turned 22 = .ok (.aload_n 1, 1) := by decide +kernel
theorem dX2_turned_23 : decode cX2_turned 23 = .ok (.iload_n 2, 1) := by decide +kernel
theorem dX2_turned_24 : decode cX2_turned 24 = .ok (.iload_n 3, 1) := by decide +kernel
theorem dX2_turned_25 : decode cX2_turned 25 = .ok (.iconst 1, 1) := by decide +kernel
theorem dX2_turned_26 : decode cX2_turned 26 = .ok (.isub, 1) := by decide +kernel
theorem dX2_turned_27 : decode cX2_turned 27 = .ok (.aload_n 1, 1) := by decide +kernel
theorem dX2_turned_28 : decode cX2_turned 28 = .ok (.iload_n 2, 1) := by decide +kernel
theorem dX2_turned_29 : decode cX2_turned 29 = .ok (.iload_n 3, 1) := by decide +kernel
theorem dX2_turned_30 : decode cX2_turned 30 = .ok (.iload 5, 2) := by decide +kernel
theorem dX2_turned_32 : decode cX2_turned 32 = .ok (.invokevirtual 55, 3) := by decide +kernel
theorem dX2_turned_35 : decode cX2_turned 35 = .ok (.invokevirtual 73, 3) := by decide +kernel
theorem dX2_turned_38 : decode cX2_turned 38 = .ok (.istore 6, 2) := by decide +kernel
theorem dX2_turned_40 : decode cX2_turned 40 = .ok (.iconst 0, 1) := by decide +kernel
theorem dX2_turned_41 : decode cX2_turned 41 = .ok (.istore 7, 2) := by decide +kernel
theorem dX2_turned_43 : decode cX2_turned 43 = .ok (.iload 7, 2) := by decide +kernel
theorem dX2_turned_45 : decode cX2_turned 45 = .ok (.iload 5, 2) := by decide +kernel
theorem dX2_turned_47 : decode cX2_turned 47 = .ok (.if_icmp .ge 51, 3) := by decide +kernel
theorem dX2_turned_50 : decode cX2_turned 50 = .ok (.iload 6, 2) := by decide +kernel
theorem dX2_turned_52 : decode cX2_turned 52 = .ok (.iconst (-1), 1) := by decide +kernel
theorem dX2_turned_53 : decode cX2_turned 53 = .ok (.if_icmp .eq 45, 3) := by decide +kernel
theorem dX2_turned_56 : decode cX2_turned 56 = .ok (.aload_n 1, 1) := by decide +kernel
theorem dX2_turned_57 : decode cX2_turned 57 = .ok (.iload_n 2, 1) := by decide +kernel
theorem dX2_turned_58 : decode cX2_turned 58 = .ok (.iload_n 3, 1) := by decide +kernel
theorem dX2_turned_59 : decode cX2_turned 59 = .ok (.iload 7, 2) := by decide +kernel
theorem dX2_turned_61 : decode cX2_turned 61 = .ok (.invokevirtual 55, 3) := by decide +kernel
theorem dX2_turned_64 : decode cX2_turned 64 = .ok (.istore 8, 2) := by decide +kernel
theorem dX2_turned_66 : decode cX2_turned 66 = .ok (.iload 4, 2) := by decide +kernel
theorem dX2_turned_68 : decode cX2_turned 68 = .ok (.aload_n 0, 1) := by decide +kernel
theorem dX2_turned_69 : decode cX2_turned 69 = .ok (.aload_n 1, 1) := by decide +kernel
theorem dX2_turned_70 : decode cX2_turned 70 = .ok (.iload_n 2, 1) := by decide +kernel
theorem dX2_turned_71 : decode cX2_turned 71 = .ok (.iload_n 3, 1) := by decide +kernel
theorem dX2_turned_72 : decode cX2_turned 72 = .ok (.iconst 1, 1) := by decide +kernel
theorem dX2_turned_73 : decode cX2_turned 73 = .ok (.isub, 1) := by decide +kernel
theorem dX2_turned_74 : decode cX2_turned 74 = .ok (.iload 8, 2) := by decide +kernel
theorem dX2_turned_76 : decode cX2_turned 76 = .ok (.invokevirtual 73, 3) := by decide +kernel
theorem dX2_turned_79 : decode cX2_turned 79 = .ok (.iload 6, 2) := by decide +kernel
theorem dX2_turned_81 : decode cX2_turned 81 = .ok (.if_icmp .le 7, 3) := by decide +kernel
theorem dX2_turned_84 : decode cX2_turned 84 = .ok (.iconst 1, 1) := by decide +kernel
theorem dX2_turned_85 : decode cX2_turned 85 = .ok (.goto 4, 3) := by decide +kernel
theorem dX2_turned_88 : decode cX2_turned 88 = .ok (.iconst 0, 1) := by decide +kernel
theorem dX2_turned_89 : decode cX2_turned 89 = .ok (.iadd, 1) := by decide +kernel
theorem dX2_turned_90 : decode cX2_turned 90 = .ok (.istore 4, 2) := by decide +kernel
theorem dX2_turned_92 : decode cX2_turned 92 = .ok (.iinc 7 1, 3) := by decide +kernel
theorem dX2_turned_95 : decode cX2_turned 95 = .ok (.goto (-52), 3) := by decide +kernel
theorem dX2_turned_98 : decode cX2_turned 98 = .ok (.iinc 5 1, 3) := by decide +kernel
theorem dX2_turned_101 : decode cX2_turned 101 = .ok (.goto (-95), 3) := by decide +kernel
theorem dX2_turned_104 : decode cX2_turned 104 = .ok (.iload 4, 2) := by decide +kernel
theorem dX2_turned_106 : decode cX2_turned 106 = .ok (.ireturn, 1) := by decide +kernel
theorem dX2_oldest_0 : decode cX2_oldest 0 = .ok (.iconst 2, 1) := by decide +kernel
theorem dX2_oldest_1 : decode cX2_oldest 1 = .ok (.iload_n 3, 1) := by decide +kernel
theorem dX2_oldest_2 : decode cX2_oldest 2 = .ok (.ishl, 1) := by decide +kernel
theorem dX2_oldest_3 : decode cX2_oldest 3 = .ok (.iconst 1, 1) := by decide +kernel
theorem dX2_oldest_4 : decode cX2_oldest 4 = .ok (.isub, 1) := by decide +kernel
theorem dX2_oldest_5 : decode cX2_oldest 5 = .ok (.istore 4, 2) := by decide +kernel
theorem dX2_oldest_7 : decode cX2_oldest 7 = .ok (.iconst (-1), 1) := by decide +kernel
theorem dX2_oldest_8 : decode cX2_oldest 8 = .ok (.istore 5, 2) := by decide +kernel
theorem dX2_oldest_10 : decode cX2_oldest 10 = .ok (.iconst 0, 1) := by decide +kernel
theorem dX2_oldest_11 : decode cX2_oldest 11 = .ok (.istore 6, 2) := by decide +kernel
theorem dX2_oldest_13 : decode cX2_oldest 13 = .ok (.iconst 0, 1) := by decide +kernel
theorem dX2_oldest_14 : decode cX2_oldest 14 = .ok (.istore 7, 2) := by decide +kernel
theorem dX2_oldest_16 : decode cX2_oldest 16 = .ok (.iload 7, 2) := by decide +kernel
theorem dX2_oldest_18 : decode cX2_oldest 18 = .ok (.aload_n 1, 1) := by decide +kernel
theorem dX2_oldest_19 : decode cX2_oldest 19 = .ok (.iload_n 2, 1) := by decide +kernel
theorem dX2_oldest_20 : decode cX2_oldest 20 = .ok (.iload_n 3, 1) := by decide +kernel
theorem dX2_oldest_21 : decode cX2_oldest 21 = .ok (.invokevirtual 25, 3) := by decide +kernel
theorem dX2_oldest_24 : decode cX2_oldest 24 = .ok (.if_icmp .ge 44, 3) := by decide +kernel
theorem dX2_oldest_27 : decode cX2_oldest 27 = .ok (.aload_n 1, 1) := by decide +kernel
theorem dX2_oldest_28 : decode cX2_oldest 28 = .ok (.aload_n 1, 1) := by decide +kernel
theorem dX2_oldest_29 : decode cX2_oldest 29 = .ok (.iload_n 2, 1) := by decide +kernel
theorem dX2_oldest_30 : decode cX2_oldest 30 = .ok (.iload_n 3, 1) := by decide +kernel
theorem dX2_oldest_31 : decode cX2_oldest 31 = .ok (.iload 7, 2) := by decide +kernel
theorem dX2_oldest_33 : decode cX2_oldest 33 = .ok (.invokevirtual 55, 3) := by decide +kernel
theorem dX2_oldest_36 : decode cX2_oldest 36 = .ok (.invokevirtual 32, 3) := by decide +kernel
theorem dX2_oldest_39 : decode cX2_oldest 39 = .ok (.iload 4, 2) := by decide +kernel
theorem dX2_oldest_41 : decode cX2_oldest 41 = .ok (.iand, 1) := by decide +kernel
theorem dX2_oldest_42 : decode cX2_oldest 42 = .ok (.invokestatic 90, 3) := by decide +kernel
theorem dX2_oldest_45 : decode cX2_oldest 45 = .ok (.istore 8, 2) := by decide +kernel
theorem dX2_oldest_47 : decode cX2_oldest 47 = .ok (.iload 8, 2) := by decide +kernel
theorem dX2_oldest_49 : decode cX2_oldest 49 = .ok (.iload 6, 2) := by decide +kernel
theorem dX2_oldest_51 : decode cX2_oldest 51 = .ok (.if_icmp .le 11, 3) := by decide +kernel
theorem dX2_oldest_54 : decode cX2_oldest 54 = .ok (.iload 7, 2) := by decide +kernel
theorem dX2_oldest_56 : decode cX2_oldest 56 = .ok (.istore 5, 2) := by decide +kernel
theorem dX2_oldest_58 : decode cX2_oldest 58 = .ok (.iload 8, 2) := by decide +kernel
theorem dX2_oldest_60 : decode cX2_oldest 60 = .ok (.istore 6, 2) := by decide +kernel
theorem dX2_oldest_62 : decode cX2_oldest 62 = .ok (.iinc 7 1, 3) := by decide +kernel
theorem dX2_oldest_65 : decode cX2_oldest 65 = .ok (.goto (-49), 3) := by decide +kernel
theorem dX2_oldest_68 : decode cX2_oldest 68 = .ok (.iload 5, 2) := by decide +kernel
theorem dX2_oldest_70 : decode cX2_oldest 70 = .ok (.ireturn, 1) := by decide +kernel
theorem dX2_documentOfDate_0 : decode cX2_documentOfDate 0 = .ok (.iconst 0, 1) := by decide +kernel
theorem dX2_documentOfDate_1 : decode cX2_documentOfDate 1 = .ok (.istore_n 3, 1) := by decide +kernel
theorem dX2_documentOfDate_2 : decode cX2_documentOfDate 2 = .ok (.iload_n 3, 1) := by decide +kernel
theorem dX2_documentOfDate_3 : decode cX2_documentOfDate 3 = .ok (.aload_n 1, 1) := by decide +kernel
theorem dX2_documentOfDate_4 : decode cX2_documentOfDate 4 = .ok (.getfield 17, 3) := by decide +kernel
theorem dX2_documentOfDate_7 : decode cX2_documentOfDate 7 = .ok (.if_icmp .ge 41, 3) := by decide +kernel
theorem dX2_documentOfDate_10 : decode cX2_documentOfDate 10 = .ok (.iconst 0, 1) := by decide +kernel
theorem dX2_documentOfDate_11 : decode cX2_documentOfDate 11 = .ok (.istore 4, 2) := by decide +kernel
theorem dX2_documentOfDate_13 : decode cX2_documentOfDate 13 = .ok (.iload 4, 2) := by decide +kernel
theorem dX2_documentOfDate_15 : decode cX2_documentOfDate 15 = .ok (.aload_n 1, 1) := by decide +kernel
theorem dX2_documentOfDate_16 : decode cX2_documentOfDate 16 = .ok (.iload_n 3, 1) := by decide +kernel
theorem dX2_documentOfDate_17 : decode cX2_documentOfDate 17 = .ok (.invokevirtual 21, 3) := by decide +kernel
theorem dX2_documentOfDate_20 : decode cX2_documentOfDate 20 = .ok (.if_icmp .ge 22, 3) := by decide +kernel
theorem dX2_documentOfDate_23 : decode cX2_documentOfDate 23 = .ok (.aload_n 1, 1) := by decide +kernel
theorem dX2_documentOfDate_24 : decode cX2_documentOfDate 24 = .ok (.iload_n 3, 1) := by decide +kernel
theorem dX2_documentOfDate_25 : decode cX2_documentOfDate 25 = .ok (.iload 4, 2) := by decide +kernel
theorem dX2_documentOfDate_27 : decode cX2_documentOfDate 27 = .ok (.invokevirtual 95, 3) := by decide +kernel
theorem dX2_documentOfDate_30 : decode cX2_documentOfDate 30 = .ok (.iload_n 2, 1) := by decide +kernel
theorem dX2_documentOfDate_31 : decode cX2_documentOfDate 31 = .ok (.if_icmp .ne 5, 3) := by decide +kernel
theorem dX2_documentOfDate_34 : decode cX2_documentOfDate 34 = .ok (.iload_n 3, 1) := by decide +kernel
theorem dX2_documentOfDate_35 : decode cX2_documentOfDate 35 = .ok (.ireturn, 1) := by decide +kernel
theorem dX2_documentOfDate_36 : decode cX2_documentOfDate 36 = .ok (.iinc 4 1, 3) := by decide +kernel
theorem dX2_documentOfDate_39 : decode cX2_documentOfDate 39 = .ok (.goto (-26), 3) := by decide +kernel
theorem dX2_documentOfDate_42 : decode cX2_documentOfDate 42 = .ok (.iinc 3 1, 3) := by decide +kernel
theorem dX2_documentOfDate_45 : decode cX2_documentOfDate 45 = .ok (.goto (-43), 3) := by decide +kernel
theorem dX2_documentOfDate_48 : decode cX2_documentOfDate 48 = .ok (.iconst (-1), 1) := by decide +kernel
theorem dX2_documentOfDate_49 : decode cX2_documentOfDate 49 = .ok (.ireturn, 1) := by decide +kernel
theorem dX2_longestRow_0 : decode cX2_longestRow 0 = .ok (.aload_n 1, 1) := by decide +kernel
theorem dX2_longestRow_1 : decode cX2_longestRow 1 = .ok (.iload 4, 2) := by decide +kernel
theorem dX2_longestRow_3 : decode cX2_longestRow 3 = .ok (.iload 5, 2) := by decide +kernel
theorem dX2_longestRow_5 : decode cX2_longestRow 5 = .ok (.invokevirtual 25, 3) := by decide +kernel
theorem dX2_longestRow_8 : decode cX2_longestRow 8 = .ok (.istore 6, 2) := by decide +kernel
theorem dX2_longestRow_10 : decode cX2_longestRow 10 = .ok (.iconst 0, 1) := by decide +kernel
theorem dX2_longestRow_11 : decode cX2_longestRow 11 = .ok (.istore 7, 2) := by decide +kernel
theorem dX2_longestRow_13 : decode cX2_longestRow 13 = .ok (.iload 7, 2) := by decide +kernel
theorem dX2_longestRow_15 : decode cX2_longestRow 15 = .ok (.iload 6, 2) := by decide +kernel
theorem dX2_longestRow_17 : decode cX2_longestRow 17 = .ok (.if_icmp .gt 19, 3) := by decide +kernel
theorem dX2_longestRow_20 : decode cX2_longestRow 20 = .ok (.aload_n 0, 1) := by decide +kernel
theorem dX2_longestRow_21 : decode cX2_longestRow 21 = .ok (.getfield 11, 3) := by decide +kernel
theorem dX2_longestRow_24 : decode cX2_longestRow 24 = .ok (.iload 7, 2) := by decide +kernel
theorem dX2_longestRow_26 : decode cX2_longestRow 26 = .ok (.iconst 0, 1) := by decide +kernel
theorem dX2_longestRow_27 : decode cX2_longestRow 27 = .ok (.invokestatic 98, 3) := by decide +kernel
theorem dX2_longestRow_30 : decode cX2_longestRow 30 = .ok (.iinc 7 1, 3) := by decide +kernel
theorem dX2_longestRow_33 : decode cX2_longestRow 33 = .ok (.goto (-20), 3) := by decide +kernel
theorem dX2_longestRow_36 : decode cX2_longestRow 36 = .ok (.iconst 0, 1) := by decide +kernel
theorem dX2_longestRow_37 : decode cX2_longestRow 37 = .ok (.istore 7, 2) := by decide +kernel
theorem dX2_longestRow_39 : decode cX2_longestRow 39 = .ok (.iload 7, 2) := by decide +kernel
theorem dX2_longestRow_41 : decode cX2_longestRow 41 = .ok (.aload_n 1, 1) := by decide +kernel
theorem dX2_longestRow_42 : decode cX2_longestRow 42 = .ok (.iload_n 2, 1) := by decide +kernel
theorem dX2_longestRow_43 : decode cX2_longestRow 43 = .ok (.iload_n 3, 1) := by decide +kernel
theorem dX2_longestRow_44 : decode cX2_longestRow 44 = .ok (.invokevirtual 25, 3) := by decide +kernel
theorem dX2_longestRow_47 : decode cX2_longestRow 47 = .ok (.if_icmp .ge 114, 3) := by decide +kernel
theorem dX2_longestRow_50 : decode cX2_longestRow 50 = .ok (.aload_n 1, 1) := by decide +kernel
theorem dX2_longestRow_51 : decode cX2_longestRow 51 = .ok (.iload_n 2, 1) := by decide +kernel
theorem dX2_longestRow_52 : decode cX2_longestRow 52 = .ok (.iload_n 3, 1) := by decide +kernel
theorem dX2_longestRow_53 : decode cX2_longestRow 53 = .ok (.iload 7, 2) := by decide +kernel
theorem dX2_longestRow_55 : decode cX2_longestRow 55 = .ok (.invokevirtual 51, 3) := by decide +kernel
theorem dX2_longestRow_58 : decode cX2_longestRow 58 = .ok (.istore 8, 2) := by decide +kernel
theorem dX2_longestRow_60 : decode cX2_longestRow 60 = .ok (.iconst 0, 1) := by decide +kernel
theorem dX2_longestRow_61 : decode cX2_longestRow 61 = .ok (.istore 9, 2) := by decide +kernel
theorem dX2_longestRow_63 : decode cX2_longestRow 63 = .ok (.iconst 1, 1) := by decide +kernel
theorem dX2_longestRow_64 : decode cX2_longestRow 64 = .ok (.istore 10, 2) := by decide +kernel
theorem dX2_longestRow_66 : decode cX2_longestRow 66 = .ok (.iload 10, 2) := by decide +kernel
theorem dX2_longestRow_68 : decode cX2_longestRow 68 = .ok (.iload 6, 2) := by decide +kernel
theorem dX2_longestRow_70 : decode cX2_longestRow 70 = .ok (.if_icmp .gt 85, 3) := by decide +kernel
theorem dX2_longestRow_73 : decode cX2_longestRow 73 = .ok (.aload_n 0, 1) := by decide +kernel
theorem dX2_longestRow_74 : decode cX2_longestRow 74 = .ok (.getfield 11, 3) := by decide +kernel
theorem dX2_longestRow_77 : decode cX2_longestRow 77 = .ok (.iload 10, 2) := by decide +kernel
theorem dX2_longestRow_79 : decode cX2_longestRow 79 = .ok (.invokestatic 102, 3) := by decide +kernel
theorem dX2_longestRow_82 : decode cX2_longestRow 82 = .ok (.istore 11, 2) := by decide +kernel
theorem dX2_longestRow_84 : decode cX2_longestRow 84 = .ok (.aload_n 1, 1) := by decide +kernel
theorem dX2_longestRow_85 : decode cX2_longestRow 85 = .ok (.iload 4, 2) := by decide +kernel
theorem dX2_longestRow_87 : decode cX2_longestRow 87 = .ok (.iload 5, 2) := by decide +kernel
theorem dX2_longestRow_89 : decode cX2_longestRow 89 = .ok (.iload 10, 2) := by decide +kernel
theorem dX2_longestRow_91 : decode cX2_longestRow 91 = .ok (.iconst 1, 1) := by decide +kernel
theorem dX2_longestRow_92 : decode cX2_longestRow 92 = .ok (.isub, 1) := by decide +kernel
theorem dX2_longestRow_93 : decode cX2_longestRow 93 = .ok (.invokevirtual 51, 3) := by decide +kernel
theorem dX2_longestRow_96 : decode cX2_longestRow 96 = .ok (.iload 8, 2) := by decide +kernel
theorem dX2_longestRow_98 : decode cX2_longestRow 98 = .ok (.if_icmp .ne 7, 3) := by decide +kernel
theorem dX2_longestRow_101 : decode cX2_longestRow 101 = .ok (.iconst 1, 1) := by decide +kernel
theorem dX2_longestRow_102 : decode cX2_longestRow 102 = .ok (.goto 4, 3) := by decide +kernel
theorem dX2_longestRow_105 : decode cX2_longestRow 105 = .ok (.iconst 0, 1) := by decide +kernel
theorem dX2_longestRow_106 : decode cX2_longestRow 106 = .ok (.istore 12, 2) := by decide +kernel
theorem dX2_longestRow_108 : decode cX2_longestRow 108 = .ok (.aload_n 0, 1) := by decide +kernel
theorem dX2_longestRow_109 : decode cX2_longestRow 109 = .ok (.getfield 11, 3) := by decide +kernel
theorem dX2_longestRow_112 : decode cX2_longestRow 112 = .ok (.iload 10, 2) := by decide +kernel
theorem dX2_longestRow_114 : decode cX2_longestRow 114 = .ok (.iload 12, 2) := by decide +kernel
theorem dX2_longestRow_116 : decode cX2_longestRow 116 = .ok (.ifCond .eq 10, 3) := by decide +kernel
theorem dX2_longestRow_119 : decode cX2_longestRow 119 = .ok (.iload 9, 2) := by decide +kernel
theorem dX2_longestRow_121 : decode cX2_longestRow 121 = .ok (.iconst 1, 1) := by decide +kernel
theorem dX2_longestRow_122 : decode cX2_longestRow 122 = .ok (.iadd, 1) := by decide +kernel
theorem dX2_longestRow_123 : decode cX2_longestRow 123 = .ok (.goto 19, 3) := by decide +kernel
theorem dX2_longestRow_126 : decode cX2_longestRow 126 = .ok (.iload 11, 2) := by decide +kernel
theorem dX2_longestRow_128 : decode cX2_longestRow 128 = .ok (.aload_n 0, 1) := by decide +kernel
theorem dX2_longestRow_129 : decode cX2_longestRow 129 = .ok (.getfield 11, 3) := by decide +kernel
theorem dX2_longestRow_132 : decode cX2_longestRow 132 = .ok (.iload 10, 2) := by decide +kernel
theorem dX2_longestRow_134 : decode cX2_longestRow 134 = .ok (.iconst 1, 1) := by decide +kernel
theorem dX2_longestRow_135 : decode cX2_longestRow 135 = .ok (.isub, 1) := by decide +kernel
theorem dX2_longestRow_136 : decode cX2_longestRow 136 = .ok (.invokestatic 102, 3) := by decide +kernel
theorem dX2_longestRow_139 : decode cX2_longestRow 139 = .ok (.invokestatic 65, 3) := by decide +kernel
theorem dX2_longestRow_142 : decode cX2_longestRow 142 = .ok (.invokestatic 98, 3) := by decide +kernel
theorem dX2_longestRow_145 : decode cX2_longestRow 145 = .ok (.iload 11, 2) := by decide +kernel
theorem dX2_longestRow_147 : decode cX2_longestRow 147 = .ok (.istore 9, 2) := by decide +kernel
theorem dX2_longestRow_149 : decode cX2_longestRow 149 = .ok (.iinc 10 1, 3) := by decide +kernel
theorem dX2_longestRow_152 : decode cX2_longestRow 152 = .ok (.goto (-86), 3) := by decide +kernel
theorem dX2_longestRow_155 : decode cX2_longestRow 155 = .ok (.iinc 7 1, 3) := by decide +kernel
theorem dX2_longestRow_158 : decode cX2_longestRow 158 = .ok (.goto (-119), 3) := by decide +kernel
theorem dX2_longestRow_161 : decode cX2_longestRow 161 = .ok (.aload_n 0, 1) := by decide +kernel
theorem dX2_longestRow_162 : decode cX2_longestRow 162 = .ok (.getfield 11, 3) := by decide +kernel
theorem dX2_longestRow_165 : decode cX2_longestRow 165 = .ok (.iload 6, 2) := by decide +kernel
theorem dX2_longestRow_167 : decode cX2_longestRow 167 = .ok (.invokestatic 102, 3) := by decide +kernel
theorem dX2_longestRow_170 : decode cX2_longestRow 170 = .ok (.ireturn, 1) := by decide +kernel
theorem dX2_documentsOfWord_0 : decode cX2_documentsOfWord 0 = .ok (.iconst 0, 1) := by decide +kernel
theorem dX2_documentsOfWord_1 : decode cX2_documentsOfWord 1 = .ok (.istore_n 3, 1) := by decide +kernel
theorem dX2_documentsOfWord_2 : decode cX2_documentsOfWord 2 = .ok (.iconst 0, 1) := by decide +kernel
theorem dX2_documentsOfWord_3 : decode cX2_documentsOfWord 3 = .ok (.istore 4, 2) := by decide +kernel
theorem dX2_documentsOfWord_5 : decode cX2_documentsOfWord 5 = .ok (.iload 4, 2) := by decide +kernel
theorem dX2_documentsOfWord_7 : decode cX2_documentsOfWord 7 = .ok (.bipush 40, 2) := by decide +kernel
theorem dX2_documentsOfWord_9 : decode cX2_documentsOfWord 9 = .ok (.if_icmp .ge 34, 3) := by decide +kernel
theorem dX2_documentsOfWord_12 : decode cX2_documentsOfWord 12 = .ok (.aload_n 1, 1) := by decide +kernel
theorem dX2_documentsOfWord_13 : decode cX2_documentsOfWord 13 = .ok (.iload_n 2, 1) := by decide +kernel
theorem dX2_documentsOfWord_14 : decode cX2_documentsOfWord 14 = .ok (.invokevirtual 106, 3) := by decide +kernel
theorem dX2_documentsOfWord_17 : decode cX2_documentsOfWord 17 = .ok (.iload 4, 2) := by decide +kernel
theorem dX2_documentsOfWord_19 : decode cX2_documentsOfWord 19 = .ok (.lushr, 1) := by decide +kernel
theorem dX2_documentsOfWord_20 : decode cX2_documentsOfWord 20 = .ok (.lconst 1, 1) := by decide +kernel
theorem dX2_documentsOfWord_21 : decode cX2_documentsOfWord 21 = .ok (.land, 1) := by decide +kernel
theorem dX2_documentsOfWord_22 : decode cX2_documentsOfWord 22 = .ok (.lconst 1, 1) := by decide +kernel
theorem dX2_documentsOfWord_23 : decode cX2_documentsOfWord 23 = .ok (.lcmp, 1) := by decide +kernel
theorem dX2_documentsOfWord_24 : decode cX2_documentsOfWord 24 = .ok (.ifCond .ne 13, 3) := by decide +kernel
theorem dX2_documentsOfWord_27 : decode cX2_documentsOfWord 27 = .ok (.iload_n 3, 1) := by decide +kernel
theorem dX2_documentsOfWord_28 : decode cX2_documentsOfWord 28 = .ok (.iconst 1, 1) := by decide +kernel
theorem dX2_documentsOfWord_29 : decode cX2_documentsOfWord 29 = .ok (.iload 4, 2) := by decide +kernel
theorem dX2_documentsOfWord_31 : decode cX2_documentsOfWord 31 = .ok (.bipush 10, 2) := by decide +kernel
theorem dX2_documentsOfWord_33 : decode cX2_documentsOfWord 33 = .ok (.idiv, 1) := by decide +kernel
theorem dX2_documentsOfWord_34 : decode cX2_documentsOfWord 34 = .ok (.ishl, 1) := by decide +kernel
theorem dX2_documentsOfWord_35 : decode cX2_documentsOfWord 35 = .ok (.ior, 1) := by decide +kernel
theorem dX2_documentsOfWord_36 : decode cX2_documentsOfWord 36 = .ok (.istore_n 3, 1) := by decide +kernel
theorem dX2_documentsOfWord_37 : decode cX2_documentsOfWord 37 = .ok (.iinc 4 1, 3) := by decide +kernel
theorem dX2_documentsOfWord_40 : decode cX2_documentsOfWord 40 = .ok (.goto (-35), 3) := by decide +kernel
theorem dX2_documentsOfWord_43 : decode cX2_documentsOfWord 43 = .ok (.iload_n 3, 1) := by decide +kernel
theorem dX2_documentsOfWord_44 : decode cX2_documentsOfWord 44 = .ok (.ireturn, 1) := by decide +kernel
theorem dX2_firstDateOfWord_0 : decode cX2_firstDateOfWord 0 = .ok (.iconst (-1), 1) := by decide +kernel
theorem dX2_firstDateOfWord_1 : decode cX2_firstDateOfWord 1 = .ok (.istore_n 3, 1) := by decide +kernel
theorem dX2_firstDateOfWord_2 : decode cX2_firstDateOfWord 2 = .ok (.iconst 0, 1) := by decide +kernel
theorem dX2_firstDateOfWord_3 : decode cX2_firstDateOfWord 3 = .ok (.istore 4, 2) := by decide +kernel
theorem dX2_firstDateOfWord_5 : decode cX2_firstDateOfWord 5 = .ok (.iload 4, 2) := by decide +kernel
theorem dX2_firstDateOfWord_7 : decode cX2_firstDateOfWord 7 = .ok (.bipush 40, 2) := by decide +kernel
theorem dX2_firstDateOfWord_9 : decode cX2_firstDateOfWord 9 = .ok (.if_icmp .ge 49, 3) := by decide +kernel
theorem dX2_firstDateOfWord_12 : decode cX2_firstDateOfWord 12 = .ok (.aload_n 1, 1) := by decide +kernel
theorem dX2_firstDateOfWord_13 : decode cX2_firstDateOfWord 13 = .ok (.getfield 110, 3) := by decide +kernel
theorem dX2_firstDateOfWord_16 : decode cX2_firstDateOfWord 16 = .ok (.iload 4, 2) := by decide +kernel
theorem dX2_firstDateOfWord_18 : decode cX2_firstDateOfWord 18 = .ok (.invokestatic 102, 3) := by decide +kernel
theorem dX2_firstDateOfWord_21 : decode cX2_firstDateOfWord 21 = .ok (.istore 5, 2) := by decide +kernel
theorem dX2_firstDateOfWord_23 : decode cX2_firstDateOfWord 23 = .ok (.aload_n 1, 1) := by decide +kernel
theorem dX2_firstDateOfWord_24 : decode cX2_firstDateOfWord 24 = .ok (.iload_n 2, 1) := by decide +kernel
theorem dX2_firstDateOfWord_25 : decode cX2_firstDateOfWord 25 = .ok (.invokevirtual 106, 3) := by decide +kernel
theorem dX2_firstDateOfWord_28 : decode cX2_firstDateOfWord 28 = .ok (.iload 4, 2) := by decide +kernel
theorem dX2_firstDateOfWord_30 : decode cX2_firstDateOfWord 30 = .ok (.lushr, 1) := by decide +kernel
theorem dX2_firstDateOfWord_31 : decode cX2_firstDateOfWord 31 = .ok (.lconst 1, 1) := by decide +kernel
theorem dX2_firstDateOfWord_32 : decode cX2_firstDateOfWord 32 = .ok (.land, 1) := by decide +kernel
theorem dX2_firstDateOfWord_33 : decode cX2_firstDateOfWord 33 = .ok (.lconst 1, 1) := by decide +kernel
theorem dX2_firstDateOfWord_34 : decode cX2_firstDateOfWord 34 = .ok (.lcmp, 1) := by decide +kernel
theorem dX2_firstDateOfWord_35 : decode cX2_firstDateOfWord 35 = .ok (.ifCond .ne 17, 3) := by decide +kernel
theorem dX2_firstDateOfWord_38 : decode cX2_firstDateOfWord 38 = .ok (.iload_n 3, 1) := by decide +kernel
theorem dX2_firstDateOfWord_39 : decode cX2_firstDateOfWord 39 = .ok (.iconst (-1), 1) := by decide +kernel
theorem dX2_firstDateOfWord_40 : decode cX2_firstDateOfWord 40 = .ok (.if_icmp .eq 9, 3) := by decide +kernel
theorem dX2_firstDateOfWord_43 : decode cX2_firstDateOfWord 43 = .ok (.iload 5, 2) := by decide +kernel
theorem dX2_firstDateOfWord_45 : decode cX2_firstDateOfWord 45 = .ok (.iload_n 3, 1) := by decide +kernel
theorem dX2_firstDateOfWord_46 : decode cX2_firstDateOfWord 46 = .ok (.if_icmp .ge 6, 3) := by decide +kernel
theorem dX2_firstDateOfWord_49 : decode cX2_firstDateOfWord 49 = .ok (.iload 5, 2) := by decide +kernel
theorem dX2_firstDateOfWord_51 : decode cX2_firstDateOfWord 51 = .ok (.istore_n 3, 1) := by decide +kernel
theorem dX2_firstDateOfWord_52 : decode cX2_firstDateOfWord 52 = .ok (.iinc 4 1, 3) := by decide +kernel
theorem dX2_firstDateOfWord_55 : decode cX2_firstDateOfWord 55 = .ok (.goto (-50), 3) := by decide +kernel
theorem dX2_firstDateOfWord_58 : decode cX2_firstDateOfWord 58 = .ok (.iload_n 3, 1) := by decide +kernel
theorem dX2_firstDateOfWord_59 : decode cX2_firstDateOfWord 59 = .ok (.ireturn, 1) := by decide +kernel
theorem dX2_spread_0 : decode cX2_spread 0 = .ok (.iconst 0, 1) := by decide +kernel
theorem dX2_spread_1 : decode cX2_spread 1 = .ok (.istore_n 3, 1) := by decide +kernel
theorem dX2_spread_2 : decode cX2_spread 2 = .ok (.iconst 0, 1) := by decide +kernel
theorem dX2_spread_3 : decode cX2_spread 3 = .ok (.istore 4, 2) := by decide +kernel
theorem dX2_spread_5 : decode cX2_spread 5 = .ok (.iload 4, 2) := by decide +kernel
theorem dX2_spread_7 : decode cX2_spread 7 = .ok (.aload_n 1, 1) := by decide +kernel
theorem dX2_spread_8 : decode cX2_spread 8 = .ok (.getfield 17, 3) := by decide +kernel
theorem dX2_spread_11 : decode cX2_spread 11 = .ok (.if_icmp .ge 47, 3) := by decide +kernel
theorem dX2_spread_14 : decode cX2_spread 14 = .ok (.iconst 0, 1) := by decide +kernel
theorem dX2_spread_15 : decode cX2_spread 15 = .ok (.istore 5, 2) := by decide +kernel
theorem dX2_spread_17 : decode cX2_spread 17 = .ok (.iload 5, 2) := by decide +kernel
theorem dX2_spread_19 : decode cX2_spread 19 = .ok (.aload_n 1, 1) := by decide +kernel
theorem dX2_spread_20 : decode cX2_spread 20 = .ok (.iload 4, 2) := by decide +kernel
theorem dX2_spread_22 : decode cX2_spread 22 = .ok (.invokevirtual 21, 3) := by decide +kernel
theorem dX2_spread_25 : decode cX2_spread 25 = .ok (.if_icmp .ge 27, 3) := by decide +kernel
theorem dX2_spread_28 : decode cX2_spread 28 = .ok (.iload_n 3, 1) := by decide +kernel
theorem dX2_spread_29 : decode cX2_spread 29 = .ok (.aload_n 1, 1) := by decide +kernel
theorem dX2_spread_30 : decode cX2_spread 30 = .ok (.aload_n 1, 1) := by decide +kernel
theorem dX2_spread_31 : decode cX2_spread 31 = .ok (.iload_n 2, 1) := by decide +kernel
theorem dX2_spread_32 : decode cX2_spread 32 = .ok (.invokevirtual 113, 3) := by decide +kernel
theorem dX2_spread_35 : decode cX2_spread 35 = .ok (.iload 4, 2) := by decide +kernel
theorem dX2_spread_37 : decode cX2_spread 37 = .ok (.iload 5, 2) := by decide +kernel
theorem dX2_spread_39 : decode cX2_spread 39 = .ok (.invokestatic 116, 3) := by decide +kernel
theorem dX2_spread_42 : decode cX2_spread 42 = .ok (.invokestatic 65, 3) := by decide +kernel
theorem dX2_spread_45 : decode cX2_spread 45 = .ok (.istore_n 3, 1) := by decide +kernel
theorem dX2_spread_46 : decode cX2_spread 46 = .ok (.iinc 5 1, 3) := by decide +kernel
theorem dX2_spread_49 : decode cX2_spread 49 = .ok (.goto (-32), 3) := by decide +kernel
theorem dX2_spread_52 : decode cX2_spread 52 = .ok (.iinc 4 1, 3) := by decide +kernel
theorem dX2_spread_55 : decode cX2_spread 55 = .ok (.goto (-50), 3) := by decide +kernel
theorem dX2_spread_58 : decode cX2_spread 58 = .ok (.iload_n 3, 1) := by decide +kernel
theorem dX2_spread_59 : decode cX2_spread 59 = .ok (.ireturn, 1) := by decide +kernel
theorem dX2_timesIn_0 : decode cX2_timesIn 0 = .ok (.iconst 0, 1) := by decide +kernel
theorem dX2_timesIn_1 : decode cX2_timesIn 1 = .ok (.istore 4, 2) := by decide +kernel
theorem dX2_timesIn_3 : decode cX2_timesIn 3 = .ok (.iconst 0, 1) := by decide +kernel
theorem dX2_timesIn_4 : decode cX2_timesIn 4 = .ok (.istore 5, 2) := by decide +kernel
theorem dX2_timesIn_6 : decode cX2_timesIn 6 = .ok (.iload 5, 2) := by decide +kernel
theorem dX2_timesIn_8 : decode cX2_timesIn 8 = .ok (.aload_n 0, 1) := by decide +kernel
theorem dX2_timesIn_9 : decode cX2_timesIn 9 = .ok (.iload_n 2, 1) := by decide +kernel
theorem dX2_timesIn_10 : decode cX2_timesIn 10 = .ok (.iload_n 3, 1) := by decide +kernel
theorem dX2_timesIn_11 : decode cX2_timesIn 11 = .ok (.invokevirtual 25, 3) := by decide +kernel
theorem dX2_timesIn_14 : decode cX2_timesIn 14 = .ok (.if_icmp .ge 31, 3) := by decide +kernel
theorem dX2_timesIn_17 : decode cX2_timesIn 17 = .ok (.iload 4, 2) := by decide +kernel
theorem dX2_timesIn_19 : decode cX2_timesIn 19 = .ok (.aload_n 0, 1) := by decide +kernel
theorem dX2_timesIn_20 : decode cX2_timesIn 20 = .ok (.iload_n 2, 1) := by decide +kernel
theorem dX2_timesIn_21 : decode cX2_timesIn 21 = .ok (.iload_n 3, 1) := by decide +kernel
theorem dX2_timesIn_22 : decode cX2_timesIn 22 = .ok (.iload 5, 2) := by decide +kernel
theorem dX2_timesIn_24 : decode cX2_timesIn 24 = .ok (.invokevirtual 51, 3) := by decide +kernel
theorem dX2_timesIn_27 : decode cX2_timesIn 27 = .ok (.iload_n 1, 1) := by decide +kernel
theorem dX2_timesIn_28 : decode cX2_timesIn 28 = .ok (.if_icmp .ne 7, 3) := by decide +kernel
theorem dX2_timesIn_31 : decode cX2_timesIn 31 = .ok (.iconst 1, 1) := by decide +kernel
theorem dX2_timesIn_32 : decode cX2_timesIn 32 = .ok (.goto 4, 3) := by decide +kernel
theorem dX2_timesIn_35 : decode cX2_timesIn 35 = .ok (.iconst 0, 1) := by decide +kernel
theorem dX2_timesIn_36 : decode cX2_timesIn 36 = .ok (.iadd, 1) := by decide +kernel
theorem dX2_timesIn_37 : decode cX2_timesIn 37 = .ok (.istore 4, 2) := by decide +kernel
theorem dX2_timesIn_39 : decode cX2_timesIn 39 = .ok (.iinc 5 1, 3) := by decide +kernel
theorem dX2_timesIn_42 : decode cX2_timesIn 42 = .ok (.goto (-36), 3) := by decide +kernel
theorem dX2_timesIn_45 : decode cX2_timesIn 45 = .ok (.iload 4, 2) := by decide +kernel
theorem dX2_timesIn_47 : decode cX2_timesIn 47 = .ok (.ireturn, 1) := by decide +kernel
theorem dX3_init_0 : decode cX3_init 0 = .ok (.aload_n 0, 1) := by decide +kernel
theorem dX3_init_1 : decode cX3_init 1 = .ok (.invokespecial 3, 3) := by decide +kernel
theorem dX3_init_4 : decode cX3_init 4 = .ok (.aload_n 0, 1) := by decide +kernel
theorem dX3_init_5 : decode cX3_init 5 = .ok (.iconst 0, 1) := by decide +kernel
theorem dX3_init_6 : decode cX3_init 6 = .ok (.putfield 9, 3) := by decide +kernel
theorem dX3_init_9 : decode cX3_init 9 = .ok (.aload_n 0, 1) := by decide +kernel
theorem dX3_init_10 : decode cX3_init 10 = .ok (.bipush 24, 2) := by decide +kernel
theorem dX3_init_12 : decode cX3_init 12 = .ok (.newarray .int, 2) := by decide +kernel
theorem dX3_init_14 : decode cX3_init 14 = .ok (.putfield 15, 3) := by decide +kernel
theorem dX3_init_17 : decode cX3_init 17 = .ok (.return_, 1) := by decide +kernel
theorem dX3_copyFrom_0 : decode cX3_copyFrom 0 = .ok (.aload_n 0, 1) := by decide +kernel
theorem dX3_copyFrom_1 : decode cX3_copyFrom 1 = .ok (.aload_n 1, 1) := by decide +kernel
theorem dX3_copyFrom_2 : decode cX3_copyFrom 2 = .ok (.getfield 9, 3) := by decide +kernel
theorem dX3_copyFrom_5 : decode cX3_copyFrom 5 = .ok (.putfield 9, 3) := by decide +kernel
theorem dX3_copyFrom_8 : decode cX3_copyFrom 8 = .ok (.aload_n 1, 1) := by decide +kernel
theorem dX3_copyFrom_9 : decode cX3_copyFrom 9 = .ok (.getfield 15, 3) := by decide +kernel
theorem dX3_copyFrom_12 : decode cX3_copyFrom 12 = .ok (.aload_n 0, 1) := by decide +kernel
theorem dX3_copyFrom_13 : decode cX3_copyFrom 13 = .ok (.getfield 15, 3) := by decide +kernel
theorem dX3_copyFrom_16 : decode cX3_copyFrom 16 = .ok (.invokestatic 19, 3) := by decide +kernel
theorem dX3_copyFrom_19 : decode cX3_copyFrom 19 = .ok (.return_, 1) := by decide +kernel
theorem dX3_add_0 : decode cX3_add 0 = .ok (.aload_n 0, 1) := by decide +kernel
theorem dX3_add_1 : decode cX3_add 1 = .ok (.getfield 9, 3) := by decide +kernel
theorem dX3_add_4 : decode cX3_add 4 = .ok (.bipush 8, 2) := by decide +kernel
theorem dX3_add_6 : decode cX3_add 6 = .ok (.if_icmp .lt 4, 3) := by decide +kernel
theorem dX3_add_9 : decode cX3_add 9 = .ok (.return_, 1) := by decide +kernel
theorem dX3_add_10 : decode cX3_add 10 = .ok (.aload_n 0, 1) := by decide +kernel
theorem dX3_add_11 : decode cX3_add 11 = .ok (.getfield 15, 3) := by decide +kernel
theorem dX3_add_14 : decode cX3_add 14 = .ok (.aload_n 0, 1) := by decide +kernel
theorem dX3_add_15 : decode cX3_add 15 = .ok (.getfield 9, 3) := by decide +kernel
theorem dX3_add_18 : decode cX3_add 18 = .ok (.iconst 3, 1) := by decide +kernel
theorem dX3_add_19 : decode cX3_add 19 = .ok (.imul, 1) := by decide +kernel
theorem dX3_add_20 : decode cX3_add 20 = .ok (.aload_n 1, 1) := by decide +kernel
theorem dX3_add_21 : decode cX3_add 21 = .ok (.getfield 25, 3) := by decide +kernel
theorem dX3_add_24 : decode cX3_add 24 = .ok (.bipush 13, 2) := by decide +kernel
theorem dX3_add_26 : decode cX3_add 26 = .ok (.if_icmp .ne 7, 3) := by decide +kernel
theorem dX3_add_29 : decode cX3_add 29 = .ok (.iconst 1, 1) := by decide +kernel
theorem dX3_add_30 : decode cX3_add 30 = .ok (.goto 4, 3) := by decide +kernel
theorem dX3_add_33 : decode cX3_add 33 = .ok (.iconst 0, 1) := by decide +kernel
theorem dX3_add_34 : decode cX3_add 34 = .ok (.invokestatic 30, 3) := by decide +kernel
theorem dX3_add_37 : decode cX3_add 37 = .ok (.aload_n 0, 1) := by decide +kernel
theorem dX3_add_38 : decode cX3_add 38 = .ok (.getfield 15, 3) := by decide +kernel
theorem dX3_add_41 : decode cX3_add 41 = .ok (.aload_n 0, 1) := by decide +kernel
theorem dX3_add_42 : decode cX3_add 42 = .ok (.getfield 9, 3) := by decide +kernel
theorem dX3_add_45 : decode cX3_add 45 = .ok (.iconst 3, 1) := by decide +kernel
theorem dX3_add_46 : decode cX3_add 46 = .ok (.imul, 1) := by decide +kernel
theorem dX3_add_47 : decode cX3_add 47 = .ok (.iconst 1, 1) := by decide +kernel
theorem dX3_add_48 : decode cX3_add 48 = .ok (.iadd, 1) := by decide +kernel
theorem dX3_add_49 : decode cX3_add 49 = .ok (.aload_n 1, 1) := by decide +kernel
theorem dX3_add_50 : decode cX3_add 50 = .ok (.iconst 0, 1) := by decide +kernel
theorem dX3_add_51 : decode cX3_add 51 = .ok (.invokevirtual 34, 3) := by decide +kernel
theorem dX3_add_54 : decode cX3_add 54 = .ok (.invokestatic 30, 3) := by decide +kernel
theorem dX3_add_57 : decode cX3_add 57 = .ok (.aload_n 0, 1) := by decide +kernel
theorem dX3_add_58 : decode cX3_add 58 = .ok (.getfield 15, 3) := by decide +kernel
theorem dX3_add_61 : decode cX3_add 61 = .ok (.aload_n 0, 1) := by decide +kernel
theorem dX3_add_62 : decode cX3_add 62 = .ok (.getfield 9, 3) := by decide +kernel
theorem dX3_add_65 : decode cX3_add 65 = .ok (.iconst 3, 1) := by decide +kernel
theorem dX3_add_66 : decode cX3_add 66 = .ok (.imul, 1) := by decide +kernel
theorem dX3_add_67 : decode cX3_add 67 = .ok (.iconst 2, 1) := by decide +kernel
theorem dX3_add_68 : decode cX3_add 68 = .ok (.iadd, 1) := by decide +kernel
theorem dX3_add_69 : decode cX3_add 69 = .ok (.aload_n 1, 1) := by decide +kernel
theorem dX3_add_70 : decode cX3_add 70 = .ok (.iconst 1, 1) := by decide +kernel
theorem dX3_add_71 : decode cX3_add 71 = .ok (.invokevirtual 34, 3) := by decide +kernel
theorem dX3_add_74 : decode cX3_add 74 = .ok (.invokestatic 30, 3) := by decide +kernel
theorem dX3_add_77 : decode cX3_add 77 = .ok (.aload_n 0, 1) := by decide +kernel
theorem dX3_add_78 : decode cX3_add 78 = .ok (.dup, 1) := by decide +kernel
theorem dX3_add_79 : decode cX3_add 79 = .ok (.getfield 9, 3) := by decide +kernel
theorem dX3_add_82 : decode cX3_add 82 = .ok (.iconst 1, 1) := by decide +kernel
theorem dX3_add_83 : decode cX3_add 83 = .ok (.iadd, 1) := by decide +kernel
theorem dX3_add_84 : decode cX3_add 84 = .ok (.putfield 9, 3) := by decide +kernel
theorem dX3_add_87 : decode cX3_add 87 = .ok (.return_, 1) := by decide +kernel
theorem dX3_has_0 : decode cX3_has 0 = .ok (.iload_n 1, 1) := by decide +kernel
theorem dX3_has_1 : decode cX3_has 1 = .ok (.ifCond .lt 15, 3) := by decide +kernel
theorem dX3_has_4 : decode cX3_has 4 = .ok (.iload_n 1, 1) := by decide +kernel
theorem dX3_has_5 : decode cX3_has 5 = .ok (.aload_n 0, 1) := by decide +kernel
theorem dX3_has_6 : decode cX3_has 6 = .ok (.getfield 9, 3) := by decide +kernel
theorem dX3_has_9 : decode cX3_has 9 = .ok (.if_icmp .ge 7, 3) := by decide +kernel
theorem dX3_has_12 : decode cX3_has 12 = .ok (.iconst 1, 1) := by decide +kernel
theorem dX3_has_13 : decode cX3_has 13 = .ok (.goto 4, 3) := by decide +kernel
theorem dX3_has_16 : decode cX3_has 16 = .ok (.iconst 0, 1) := by decide +kernel
theorem dX3_has_17 : decode cX3_has 17 = .ok (.ireturn, 1) := by decide +kernel
theorem dX3_partOf_0 : decode cX3_partOf 0 = .ok (.aload_n 0, 1) := by decide +kernel
theorem dX3_partOf_1 : decode cX3_partOf 1 = .ok (.getfield 15, 3) := by decide +kernel
theorem dX3_partOf_4 : decode cX3_partOf 4 = .ok (.iload_n 1, 1) := by decide +kernel
theorem dX3_partOf_5 : decode cX3_partOf 5 = .ok (.iconst 3, 1) := by decide +kernel
theorem dX3_partOf_6 : decode cX3_partOf 6 = .ok (.imul, 1) := by decide +kernel
theorem dX3_partOf_7 : decode cX3_partOf 7 = .ok (.iload_n 2, 1) := by decide +kernel
theorem dX3_partOf_8 : decode cX3_partOf 8 = .ok (.iadd, 1) := by decide +kernel
theorem dX3_partOf_9 : decode cX3_partOf 9 = .ok (.invokestatic 38, 3) := by decide +kernel
theorem dX3_partOf_12 : decode cX3_partOf 12 = .ok (.ireturn, 1) := by decide +kernel
theorem dX3_slotsTold_0 : decode cX3_slotsTold 0 = .ok (.lconst 0, 1) := by decide +kernel
theorem dX3_slotsTold_1 : decode cX3_slotsTold 1 = .ok (.lstore_n 2, 1) := by decide +kernel
theorem dX3_slotsTold_2 : decode cX3_slotsTold 2 = .ok (.iconst 0, 1) := by decide +kernel
theorem dX3_slotsTold_3 : decode cX3_slotsTold 3 = .ok (.istore 4, 2) := by decide +kernel
theorem dX3_slotsTold_5 : decode cX3_slotsTold 5 = .ok (.iload 4, 2) := by decide +kernel
theorem dX3_slotsTold_7 : decode cX3_slotsTold 7 = .ok (.aload_n 0, 1) := by decide +kernel
theorem dX3_slotsTold_8 : decode cX3_slotsTold 8 = .ok (.getfield 9, 3) := by decide +kernel
theorem dX3_slotsTold_11 : decode cX3_slotsTold 11 = .ok (.if_icmp .ge 42, 3) := by decide +kernel
theorem dX3_slotsTold_14 : decode cX3_slotsTold 14 = .ok (.aload_n 0, 1) := by decide +kernel
theorem dX3_slotsTold_15 : decode cX3_slotsTold 15 = .ok (.iload 4, 2) := by decide +kernel
theorem dX3_slotsTold_17 : decode cX3_slotsTold 17 = .ok (.iconst 0, 1) := by decide +kernel
theorem dX3_slotsTold_18 : decode cX3_slotsTold 18 = .ok (.invokevirtual 42, 3) := by decide +kernel
theorem dX3_slotsTold_21 : decode cX3_slotsTold 21 = .ok (.iload_n 1, 1) := by decide +kernel
theorem dX3_slotsTold_22 : decode cX3_slotsTold 22 = .ok (.if_icmp .ne 25, 3) := by decide +kernel
theorem dX3_slotsTold_25 : decode cX3_slotsTold 25 = .ok (.lload_n 2, 1) := by decide +kernel
theorem dX3_slotsTold_26 : decode cX3_slotsTold 26 = .ok (.lconst 1, 1) := by decide +kernel
theorem dX3_slotsTold_27 : decode cX3_slotsTold 27 = .ok (.aload_n 0, 1) := by decide +kernel
theorem dX3_slotsTold_28 : decode cX3_slotsTold 28 = .ok (.iload 4, 2) := by decide +kernel
theorem dX3_slotsTold_30 : decode cX3_slotsTold 30 = .ok (.iconst 1, 1) := by decide +kernel
theorem dX3_slotsTold_31 : decode cX3_slotsTold 31 = .ok (.invokevirtual 42, 3) := by decide +kernel
theorem dX3_slotsTold_34 : decode cX3_slotsTold 34 = .ok (.aload_n 0, 1) := by decide +kernel
theorem dX3_slotsTold_35 : decode cX3_slotsTold 35 = .ok (.iload 4, 2) := by decide +kernel
theorem dX3_slotsTold_37 : decode cX3_slotsTold 37 = .ok (.iconst 2, 1) := by decide +kernel
theorem dX3_slotsTold_38 : decode cX3_slotsTold 38 = .ok (.invokevirtual 42, 3) := by decide +kernel
theorem dX3_slotsTold_41 : decode cX3_slotsTold 41 = .ok (.invokestatic 46, 3) := by decide +kernel
theorem dX3_slotsTold_44 : decode cX3_slotsTold 44 = .ok (.lshl, 1) := by decide +kernel
theorem dX3_slotsTold_45 : decode cX3_slotsTold 45 = .ok (.lor, 1) := by decide +kernel
theorem dX3_slotsTold_46 : decode cX3_slotsTold 46 = .ok (.lstore_n 2, 1) := by decide +kernel
theorem dX3_slotsTold_47 : decode cX3_slotsTold 47 = .ok (.iinc 4 1, 3) := by decide +kernel
theorem dX3_slotsTold_50 : decode cX3_slotsTold 50 = .ok (.goto (-45), 3) := by decide +kernel
theorem dX3_slotsTold_53 : decode cX3_slotsTold 53 = .ok (.lload_n 2, 1) := by decide +kernel
theorem dX3_slotsTold_54 : decode cX3_slotsTold 54 = .ok (.lreturn, 1) := by decide +kernel
theorem dX3_keepsTo_0 : decode cX3_keepsTo 0 = .ok (.lload_n 0, 1) := by decide +kernel
theorem dX3_keepsTo_1 : decode cX3_keepsTo 1 = .ok (.lload_n 2, 1) := by decide +kernel
theorem dX3_keepsTo_2 : decode cX3_keepsTo 2 = .ok (.land, 1) := by decide +kernel
theorem dX3_keepsTo_3 : decode cX3_keepsTo 3 = .ok (.lload_n 2, 1) := by decide +kernel
theorem dX3_keepsTo_4 : decode cX3_keepsTo 4 = .ok (.lcmp, 1) := by decide +kernel
theorem dX3_keepsTo_5 : decode cX3_keepsTo 5 = .ok (.ifCond .ne 16, 3) := by decide +kernel
theorem dX3_keepsTo_8 : decode cX3_keepsTo 8 = .ok (.lload_n 0, 1) := by decide +kernel
theorem dX3_keepsTo_9 : decode cX3_keepsTo 9 = .ok (.lload 4, 2) := by decide +kernel
theorem dX3_keepsTo_11 : decode cX3_keepsTo 11 = .ok (.land, 1) := by decide +kernel
theorem dX3_keepsTo_12 : decode cX3_keepsTo 12 = .ok (.lconst 0, 1) := by decide +kernel
theorem dX3_keepsTo_13 : decode cX3_keepsTo 13 = .ok (.lcmp, 1) := by decide +kernel
theorem dX3_keepsTo_14 : decode cX3_keepsTo 14 = .ok (.ifCond .ne 7, 3) := by decide +kernel
theorem dX3_keepsTo_17 : decode cX3_keepsTo 17 = .ok (.iconst 1, 1) := by decide +kernel
theorem dX3_keepsTo_18 : decode cX3_keepsTo 18 = .ok (.goto 4, 3) := by decide +kernel
theorem dX3_keepsTo_21 : decode cX3_keepsTo 21 = .ok (.iconst 0, 1) := by decide +kernel
theorem dX3_keepsTo_22 : decode cX3_keepsTo 22 = .ok (.ireturn, 1) := by decide +kernel
theorem dX3_fitting_0 : decode cX3_fitting 0 = .ok (.aload_n 0, 1) := by decide +kernel
theorem dX3_fitting_1 : decode cX3_fitting 1 = .ok (.iconst 1, 1) := by decide +kernel
theorem dX3_fitting_2 : decode cX3_fitting 2 = .ok (.invokevirtual 51, 3) := by decide +kernel
theorem dX3_fitting_5 : decode cX3_fitting 5 = .ok (.lstore_n 2, 1) := by decide +kernel
theorem dX3_fitting_6 : decode cX3_fitting 6 = .ok (.aload_n 0, 1) := by decide +kernel
theorem dX3_fitting_7 : decode cX3_fitting 7 = .ok (.iconst 0, 1) := by decide +kernel
theorem dX3_fitting_8 : decode cX3_fitting 8 = .ok (.invokevirtual 51, 3) := by decide +kernel
theorem dX3_fitting_11 : decode cX3_fitting 11 = .ok (.lstore 4, 2) := by decide +kernel
theorem dX3_fitting_13 : decode cX3_fitting 13 = .ok (.iconst 0, 1) := by decide +kernel
theorem dX3_fitting_14 : decode cX3_fitting 14 = .ok (.istore 6, 2) := by decide +kernel
theorem dX3_fitting_16 : decode cX3_fitting 16 = .ok (.iconst 0, 1) := by decide +kernel
theorem dX3_fitting_17 : decode cX3_fitting 17 = .ok (.istore 7, 2) := by decide +kernel
theorem dX3_fitting_19 : decode cX3_fitting 19 = .ok (.iload 7, 2) := by decide +kernel
theorem dX3_fitting_21 : decode cX3_fitting 21 = .ok (.aload_n 1, 1) := by decide +kernel
theorem dX3_fitting_22 : decode cX3_fitting 22 = .ok (.getfield 55, 3) := by decide +kernel
theorem dX3_fitting_25 : decode cX3_fitting 25 = .ok (.if_icmp .ge 34, 3) := by decide +kernel
theorem dX3_fitting_28 : decode cX3_fitting 28 = .ok (.iload 6, 2) := by decide +kernel
theorem dX3_fitting_30 : decode cX3_fitting 30 = .ok (.aload_n 1, 1) := by decide +kernel
theorem dX3_fitting_31 : decode cX3_fitting 31 = .ok (.iload 7, 2) := by decide +kernel
theorem dX3_fitting_33 : decode cX3_fitting 33 = .ok (.invokevirtual 58, 3) := by decide +kernel
theorem dX3_fitting_36 : decode cX3_fitting 36 = .ok (.lload_n 2, 1) := by decide +kernel
theorem dX3_fitting_37 : decode cX3_fitting 37 = .ok (.lload 4, 2) := by decide +kernel
theorem dX3_fitting_39 : decode cX3_fitting 39 = .ok (.invokestatic 61, 3) := by decide +kernel
theorem dX3_fitting_42 : decode cX3_fitting 42 = .ok (.ifCond .eq 7, 3) := by decide +kernel
theorem dX3_fitting_45 : decode cX3_fitting 45 = .ok (.iconst 1, 1) := by decide +kernel
theorem dX3_fitting_46 : decode cX3_fitting 46 = .ok (.goto 4, 3) := by decide +kernel
theorem dX3_fitting_49 : decode cX3_fitting 49 = .ok (.iconst 0, 1) := by decide +kernel
theorem dX3_fitting_50 : decode cX3_fitting 50 = .ok (.iadd, 1) := by decide +kernel
theorem dX3_fitting_51 : decode cX3_fitting 51 = .ok (.istore 6, 2) := by decide +kernel
theorem dX3_fitting_53 : decode cX3_fitting 53 = .ok (.iinc 7 1, 3) := by decide +kernel
theorem dX3_fitting_56 : decode cX3_fitting 56 = .ok (.goto (-37), 3) := by decide +kernel
theorem dX3_fitting_59 : decode cX3_fitting 59 = .ok (.iload 6, 2) := by decide +kernel
theorem dX3_fitting_61 : decode cX3_fitting 61 = .ok (.ireturn, 1) := by decide +kernel
theorem dX3_fittingAt_0 : decode cX3_fittingAt 0 = .ok (.aload_n 0, 1) := by decide +kernel
theorem dX3_fittingAt_1 : decode cX3_fittingAt 1 = .ok (.iconst 1, 1) := by decide +kernel
theorem dX3_fittingAt_2 : decode cX3_fittingAt 2 = .ok (.invokevirtual 51, 3) := by decide +kernel
theorem dX3_fittingAt_5 : decode cX3_fittingAt 5 = .ok (.lstore_n 3, 1) := by decide +kernel
theorem dX3_fittingAt_6 : decode cX3_fittingAt 6 = .ok (.aload_n 0, 1) := by decide +kernel
theorem dX3_fittingAt_7 : decode cX3_fittingAt 7 = .ok (.iconst 0, 1) := by decide +kernel
theorem dX3_fittingAt_8 : decode cX3_fittingAt 8 = .ok (.invokevirtual 51, 3) := by decide +kernel
theorem dX3_fittingAt_11 : decode cX3_fittingAt 11 = .ok (.lstore 5, 2) := by decide +kernel
theorem dX3_fittingAt_13 : decode cX3_fittingAt 13 = .ok (.iconst 0, 1) := by decide +kernel
theorem dX3_fittingAt_14 : decode cX3_fittingAt 14 = .ok (.istore 7, 2) := by decide +kernel
theorem dX3_fittingAt_16 : decode cX3_fittingAt 16 = .ok (.iconst 0, 1) := by decide +kernel
theorem dX3_fittingAt_17 : decode cX3_fittingAt 17 = .ok (.istore 8, 2) := by decide +kernel
theorem dX3_fittingAt_19 : decode cX3_fittingAt 19 = .ok (.iload 8, 2) := by decide +kernel
theorem dX3_fittingAt_21 : decode cX3_fittingAt 21 = .ok (.aload_n 1, 1) := by decide +kernel
theorem dX3_fittingAt_22 : decode cX3_fittingAt 22 = .ok (.getfield 55, 3) := by decide +kernel
theorem dX3_fittingAt_25 : decode cX3_fittingAt 25 = .ok (.if_icmp .ge 43, 3) := by decide +kernel
theorem dX3_fittingAt_28 : decode cX3_fittingAt 28 = .ok (.aload_n 1, 1) := by decide +kernel
theorem dX3_fittingAt_29 : decode cX3_fittingAt 29 = .ok (.iload 8, 2) := by decide +kernel
theorem dX3_fittingAt_31 : decode cX3_fittingAt 31 = .ok (.invokevirtual 58, 3) := by decide +kernel
theorem dX3_fittingAt_34 : decode cX3_fittingAt 34 = .ok (.lload_n 3, 1) := by decide +kernel
theorem dX3_fittingAt_35 : decode cX3_fittingAt 35 = .ok (.lload 5, 2) := by decide +kernel
theorem dX3_fittingAt_37 : decode cX3_fittingAt 37 = .ok (.invokestatic 61, 3) := by decide +kernel
theorem dX3_fittingAt_40 : decode cX3_fittingAt 40 = .ok (.ifCond .eq 22, 3) := by decide +kernel
theorem dX3_fittingAt_43 : decode cX3_fittingAt 43 = .ok (.iload 7, 2) := by decide +kernel
theorem dX3_fittingAt_45 : decode cX3_fittingAt 45 = .ok (.iload_n 2, 1) := by decide +kernel
theorem dX3_fittingAt_46 : decode cX3_fittingAt 46 = .ok (.if_icmp .ne 13, 3) := by decide +kernel
theorem dX3_fittingAt_49 : decode cX3_fittingAt 49 = .ok (.aload_n 1, 1) := by decide +kernel
theorem dX3_fittingAt_50 : decode cX3_fittingAt 50 = .ok (.iload 8, 2) := by decide +kernel
theorem dX3_fittingAt_52 : decode cX3_fittingAt 52 = .ok (.invokevirtual 65, 3) := by decide +kernel
theorem dX3_fittingAt_55 : decode cX3_fittingAt 55 = .ok (.invokestatic 68, 3) := by decide +kernel
theorem dX3_fittingAt_58 : decode cX3_fittingAt 58 = .ok (.ireturn, 1) := by decide +kernel
theorem dX3_fittingAt_59 : decode cX3_fittingAt 59 = .ok (.iinc 7 1, 3) := by decide +kernel
theorem dX3_fittingAt_62 : decode cX3_fittingAt 62 = .ok (.iinc 8 1, 3) := by decide +kernel
theorem dX3_fittingAt_65 : decode cX3_fittingAt 65 = .ok (.goto (-46), 3) := by decide +kernel
theorem dX3_fittingAt_68 : decode cX3_fittingAt 68 = .ok (.bipush (-2), 2) := by decide +kernel
theorem dX3_fittingAt_70 : decode cX3_fittingAt 70 = .ok (.ireturn, 1) := by decide +kernel
theorem dX3_sureLetter_0 : decode cX3_sureLetter 0 = .ok (.aload_n 0, 1) := by decide +kernel
theorem dX3_sureLetter_1 : decode cX3_sureLetter 1 = .ok (.iconst 1, 1) := by decide +kernel
theorem dX3_sureLetter_2 : decode cX3_sureLetter 2 = .ok (.invokevirtual 51, 3) := by decide +kernel
theorem dX3_sureLetter_5 : decode cX3_sureLetter 5 = .ok (.lstore_n 2, 1) := by decide +kernel
theorem dX3_sureLetter_6 : decode cX3_sureLetter 6 = .ok (.aload_n 0, 1) := by decide +kernel
theorem dX3_sureLetter_7 : decode cX3_sureLetter 7 = .ok (.iconst 0, 1) := by decide +kernel
theorem dX3_sureLetter_8 : decode cX3_sureLetter 8 = .ok (.invokevirtual 51, 3) := by decide +kernel
theorem dX3_sureLetter_11 : decode cX3_sureLetter 11 = .ok (.lstore 4, 2) := by decide +kernel
theorem dX3_sureLetter_13 : decode cX3_sureLetter 13 = .ok (.iconst (-1), 1) := by decide +kernel
theorem dX3_sureLetter_14 : decode cX3_sureLetter 14 = .ok (.istore 6, 2) := by decide +kernel
theorem dX3_sureLetter_16 : decode cX3_sureLetter 16 = .ok (.iconst 0, 1) := by decide +kernel
theorem dX3_sureLetter_17 : decode cX3_sureLetter 17 = .ok (.istore 7, 2) := by decide +kernel
theorem dX3_sureLetter_19 : decode cX3_sureLetter 19 = .ok (.iload 7, 2) := by decide +kernel
theorem dX3_sureLetter_21 : decode cX3_sureLetter 21 = .ok (.aload_n 1, 1) := by decide +kernel
theorem dX3_sureLetter_22 : decode cX3_sureLetter 22 = .ok (.getfield 55, 3) := by decide +kernel
theorem dX3_sureLetter_25 : decode cX3_sureLetter 25 = .ok (.if_icmp .ge 54, 3) := by decide +kernel
theorem dX3_sureLetter_28 : decode cX3_sureLetter 28 = .ok (.aload_n 1, 1) := by decide +kernel
theorem dX3_sureLetter_29 : decode cX3_sureLetter 29 = .ok (.iload 7, 2) := by decide +kernel
theorem dX3_sureLetter_31 : decode cX3_sureLetter 31 = .ok (.invokevirtual 58, 3) := by decide +kernel
theorem dX3_sureLetter_34 : decode cX3_sureLetter 34 = .ok (.lload_n 2, 1) := by decide +kernel
theorem dX3_sureLetter_35 : decode cX3_sureLetter 35 = .ok (.lload 4, 2) := by decide +kernel
theorem dX3_sureLetter_37 : decode cX3_sureLetter 37 = .ok (.invokestatic 61, 3) := by decide +kernel
theorem dX3_sureLetter_40 : decode cX3_sureLetter 40 = .ok (.ifCond .eq 33, 3) := by decide +kernel
theorem dX3_sureLetter_43 : decode cX3_sureLetter 43 = .ok (.aload_n 1, 1) := by decide +kernel
theorem dX3_sureLetter_44 : decode cX3_sureLetter 44 = .ok (.iload 7, 2) := by decide +kernel
theorem dX3_sureLetter_46 : decode cX3_sureLetter 46 = .ok (.invokevirtual 65, 3) := by decide +kernel
theorem dX3_sureLetter_49 : decode cX3_sureLetter 49 = .ok (.invokestatic 71, 3) := by decide +kernel
theorem dX3_sureLetter_52 : decode cX3_sureLetter 52 = .ok (.istore 8, 2) := by decide +kernel
theorem dX3_sureLetter_54 : decode cX3_sureLetter 54 = .ok (.iload 6, 2) := by decide +kernel
theorem dX3_sureLetter_56 : decode cX3_sureLetter 56 = .ok (.iconst (-1), 1) := by decide +kernel
theorem dX3_sureLetter_57 : decode cX3_sureLetter 57 = .ok (.if_icmp .eq 12, 3) := by decide +kernel
theorem dX3_sureLetter_60 : decode cX3_sureLetter 60 = .ok (.iload 6, 2) := by decide +kernel
theorem dX3_sureLetter_62 : decode cX3_sureLetter 62 = .ok (.iload 8, 2) := by decide +kernel
theorem dX3_sureLetter_64 : decode cX3_sureLetter 64 = .ok (.if_icmp .eq 5, 3) := by decide +kernel
theorem dX3_sureLetter_67 : decode cX3_sureLetter 67 = .ok (.iconst (-1), 1) := by decide +kernel
theorem dX3_sureLetter_68 : decode cX3_sureLetter 68 = .ok (.ireturn, 1) := by decide +kernel
theorem dX3_sureLetter_69 : decode cX3_sureLetter 69 = .ok (.iload 8, 2) := by decide +kernel
theorem dX3_sureLetter_71 : decode cX3_sureLetter 71 = .ok (.istore 6, 2) := by decide +kernel
theorem dX3_sureLetter_73 : decode cX3_sureLetter 73 = .ok (.iinc 7 1, 3) := by decide +kernel
theorem dX3_sureLetter_76 : decode cX3_sureLetter 76 = .ok (.goto (-57), 3) := by decide +kernel
theorem dX3_sureLetter_79 : decode cX3_sureLetter 79 = .ok (.iload 6, 2) := by decide +kernel
theorem dX3_sureLetter_81 : decode cX3_sureLetter 81 = .ok (.ireturn, 1) := by decide +kernel
theorem dX3_askVersion_0 : decode cX3_askVersion 0 = .ok (.aload_n 0, 1) := by decide +kernel
theorem dX3_askVersion_1 : decode cX3_askVersion 1 = .ok (.aload_n 1, 1) := by decide +kernel
theorem dX3_askVersion_2 : decode cX3_askVersion 2 = .ok (.invokevirtual 74, 3) := by decide +kernel
theorem dX3_askVersion_5 : decode cX3_askVersion 5 = .ok (.istore_n 2, 1) := by decide +kernel
theorem dX3_askVersion_6 : decode cX3_askVersion 6 = .ok (.iconst (-1), 1) := by decide +kernel
theorem dX3_askVersion_7 : decode cX3_askVersion 7 = .ok (.istore_n 3, 1) := by decide +kernel
theorem dX3_askVersion_8 : decode cX3_askVersion 8 = .ok (.iload_n 2, 1) := by decide +kernel
theorem dX3_askVersion_9 : decode cX3_askVersion 9 = .ok (.istore 4, 2) := by decide +kernel
theorem dX3_askVersion_11 : decode cX3_askVersion 11 = .ok (.iconst 0, 1) := by decide +kernel
theorem dX3_askVersion_12 : decode cX3_askVersion 12 = .ok (.istore 5, 2) := by decide +kernel
theorem dX3_askVersion_14 : decode cX3_askVersion 14 = .ok (.iload 5, 2) := by decide +kernel
theorem dX3_askVersion_16 : decode cX3_askVersion 16 = .ok (.bipush 40, 2) := by decide +kernel
theorem dX3_askVersion_18 : decode cX3_askVersion 18 = .ok (.if_icmp .ge 83, 3) := by decide +kernel
theorem dX3_askVersion_21 : decode cX3_askVersion 21 = .ok (.iload_n 2, 1) := by decide +kernel
theorem dX3_askVersion_22 : decode cX3_askVersion 22 = .ok (.ifCond .le 79, 3) := by decide +kernel
theorem dX3_askVersion_25 : decode cX3_askVersion 25 = .ok (.iload 5, 2) := by decide +kernel
theorem dX3_askVersion_27 : decode cX3_askVersion 27 = .ok (.bipush 10, 2) := by decide +kernel
theorem dX3_askVersion_29 : decode cX3_askVersion 29 = .ok (.idiv, 1) := by decide +kernel
theorem dX3_askVersion_30 : decode cX3_askVersion 30 = .ok (.istore 6, 2) := by decide +kernel
theorem dX3_askVersion_32 : decode cX3_askVersion 32 = .ok (.iload 5, 2) := by decide +kernel
theorem dX3_askVersion_34 : decode cX3_askVersion 34 = .ok (.bipush 10, 2) := by decide +kernel
theorem dX3_askVersion_36 : decode cX3_askVersion 36 = .ok (.irem, 1) := by decide +kernel
theorem dX3_askVersion_37 : decode cX3_askVersion 37 = .ok (.istore 7, 2) := by decide +kernel
theorem dX3_askVersion_39 : decode cX3_askVersion 39 = .ok (.aload_n 1, 1) := by decide +kernel
theorem dX3_askVersion_40 : decode cX3_askVersion 40 = .ok (.iload 6, 2) := by decide +kernel
theorem dX3_askVersion_42 : decode cX3_askVersion 42 = .ok (.iload 7, 2) := by decide +kernel
theorem dX3_askVersion_44 : decode cX3_askVersion 44 = .ok (.invokevirtual 78, 3) := by decide +kernel
theorem dX3_askVersion_47 : decode cX3_askVersion 47 = .ok (.ifCond .eq 48, 3) := by decide +kernel
theorem dX3_askVersion_50 : decode cX3_askVersion 50 = .ok (.aload_n 0, 1) := by decide +kernel
theorem dX3_askVersion_51 : decode cX3_askVersion 51 = .ok (.aload_n 1, 1) := by decide +kernel
theorem dX3_askVersion_52 : decode cX3_askVersion 52 = .ok (.iload 5, 2) := by decide +kernel
theorem dX3_askVersion_54 : decode cX3_askVersion 54 = .ok (.invokevirtual 82, 3) := by decide +kernel
theorem dX3_askVersion_57 : decode cX3_askVersion 57 = .ok (.istore 8, 2) := by decide +kernel
theorem dX3_askVersion_59 : decode cX3_askVersion 59 = .ok (.iload 8, 2) := by decide +kernel
theorem dX3_askVersion_61 : decode cX3_askVersion 61 = .ok (.iload_n 2, 1) := by decide +kernel
theorem dX3_askVersion_62 : decode cX3_askVersion 62 = .ok (.iload 8, 2) := by decide +kernel
theorem dX3_askVersion_64 : decode cX3_askVersion 64 = .ok (.isub, 1) := by decide +kernel
theorem dX3_askVersion_65 : decode cX3_askVersion 65 = .ok (.invokestatic 86, 3) := by decide +kernel
theorem dX3_askVersion_68 : decode cX3_askVersion 68 = .ok (.istore 9, 2) := by decide +kernel
theorem dX3_askVersion_70 : decode cX3_askVersion 70 = .ok (.iload_n 3, 1) := by decide +kernel
theorem dX3_askVersion_71 : decode cX3_askVersion 71 = .ok (.iconst (-1), 1) := by decide +kernel
theorem dX3_askVersion_72 : decode cX3_askVersion 72 = .ok (.if_icmp .eq 10, 3) := by decide +kernel
theorem dX3_askVersion_75 : decode cX3_askVersion 75 = .ok (.iload 9, 2) := by decide +kernel
theorem dX3_askVersion_77 : decode cX3_askVersion 77 = .ok (.iload 4, 2) := by decide +kernel
theorem dX3_askVersion_79 : decode cX3_askVersion 79 = .ok (.if_icmp .ge 16, 3) := by decide +kernel
theorem dX3_askVersion_82 : decode cX3_askVersion 82 = .ok (.bipush 10, 2) := by decide +kernel
theorem dX3_askVersion_84 : decode cX3_askVersion 84 = .ok (.iload 6, 2) := by decide +kernel
theorem dX3_askVersion_86 : decode cX3_askVersion 86 = .ok (.imul, 1) := by decide +kernel
theorem dX3_askVersion_87 : decode cX3_askVersion 87 = .ok (.iload 7, 2) := by decide +kernel
theorem dX3_askVersion_89 : decode cX3_askVersion 89 = .ok (.iadd, 1) := by decide +kernel
theorem dX3_askVersion_90 : decode cX3_askVersion 90 = .ok (.istore_n 3, 1) := by decide +kernel
theorem dX3_askVersion_91 : decode cX3_askVersion 91 = .ok (.iload 9, 2) := by decide +kernel
theorem dX3_askVersion_93 : decode cX3_askVersion 93 = .ok (.istore 4, 2) := by decide +kernel
theorem dX3_askVersion_95 : decode cX3_askVersion 95 = .ok (.iinc 5 1, 3) := by decide +kernel
theorem dX3_askVersion_98 : decode cX3_askVersion 98 = .ok (.goto (-84), 3) := by decide +kernel
theorem dX3_askVersion_101 : decode cX3_askVersion 101 = .ok (.iload_n 3, 1) := by decide +kernel
theorem dX3_askVersion_102 : decode cX3_askVersion 102 = .ok (.ireturn, 1) := by decide +kernel
theorem dX3_fittingIn_0 : decode cX3_fittingIn 0 = .ok (.aload_n 0, 1) := by decide +kernel
theorem dX3_fittingIn_1 : decode cX3_fittingIn 1 = .ok (.iconst 1, 1) := by decide +kernel
theorem dX3_fittingIn_2 : decode cX3_fittingIn 2 = .ok (.invokevirtual 51, 3) := by decide +kernel
theorem dX3_fittingIn_5 : decode cX3_fittingIn 5 = .ok (.lstore_n 3, 1) := by decide +kernel
theorem dX3_fittingIn_6 : decode cX3_fittingIn 6 = .ok (.aload_n 0, 1) := by decide +kernel
theorem dX3_fittingIn_7 : decode cX3_fittingIn 7 = .ok (.iconst 0, 1) := by decide +kernel
theorem dX3_fittingIn_8 : decode cX3_fittingIn 8 = .ok (.invokevirtual 51, 3) := by decide +kernel
theorem dX3_fittingIn_11 : decode cX3_fittingIn 11 = .ok (.lstore 5, 2) := by decide +kernel
theorem dX3_fittingIn_13 : decode cX3_fittingIn 13 = .ok (.iconst 0, 1) := by decide +kernel
theorem dX3_fittingIn_14 : decode cX3_fittingIn 14 = .ok (.istore 7, 2) := by decide +kernel
theorem dX3_fittingIn_16 : decode cX3_fittingIn 16 = .ok (.iconst 0, 1) := by decide +kernel
theorem dX3_fittingIn_17 : decode cX3_fittingIn 17 = .ok (.istore 8, 2) := by decide +kernel
theorem dX3_fittingIn_19 : decode cX3_fittingIn 19 = .ok (.iload 8, 2) := by decide +kernel
theorem dX3_fittingIn_21 : decode cX3_fittingIn 21 = .ok (.aload_n 1, 1) := by decide +kernel
theorem dX3_fittingIn_22 : decode cX3_fittingIn 22 = .ok (.getfield 55, 3) := by decide +kernel
theorem dX3_fittingIn_25 : decode cX3_fittingIn 25 = .ok (.if_icmp .ge 49, 3) := by decide +kernel
theorem dX3_fittingIn_28 : decode cX3_fittingIn 28 = .ok (.aload_n 1, 1) := by decide +kernel
theorem dX3_fittingIn_29 : decode cX3_fittingIn 29 = .ok (.iload 8, 2) := by decide +kernel
theorem dX3_fittingIn_31 : decode cX3_fittingIn 31 = .ok (.invokevirtual 58, 3) := by decide +kernel
theorem dX3_fittingIn_34 : decode cX3_fittingIn 34 = .ok (.lstore 9, 2) := by decide +kernel
theorem dX3_fittingIn_36 : decode cX3_fittingIn 36 = .ok (.iload 7, 2) := by decide +kernel
theorem dX3_fittingIn_38 : decode cX3_fittingIn 38 = .ok (.lload 9, 2) := by decide +kernel
theorem dX3_fittingIn_40 : decode cX3_fittingIn 40 = .ok (.iload_n 2, 1) := by decide +kernel
theorem dX3_fittingIn_41 : decode cX3_fittingIn 41 = .ok (.lushr, 1) := by decide +kernel
theorem dX3_fittingIn_42 : decode cX3_fittingIn 42 = .ok (.lconst 1, 1) := by decide +kernel
theorem dX3_fittingIn_43 : decode cX3_fittingIn 43 = .ok (.land, 1) := by decide +kernel
theorem dX3_fittingIn_44 : decode cX3_fittingIn 44 = .ok (.lconst 1, 1) := by decide +kernel
theorem dX3_fittingIn_45 : decode cX3_fittingIn 45 = .ok (.lcmp, 1) := by decide +kernel
theorem dX3_fittingIn_46 : decode cX3_fittingIn 46 = .ok (.ifCond .ne 18, 3) := by decide +kernel
theorem dX3_fittingIn_49 : decode cX3_fittingIn 49 = .ok (.lload 9, 2) := by decide +kernel
theorem dX3_fittingIn_51 : decode cX3_fittingIn 51 = .ok (.lload_n 3, 1) := by decide +kernel
theorem dX3_fittingIn_52 : decode cX3_fittingIn 52 = .ok (.lload 5, 2) := by decide +kernel
theorem dX3_fittingIn_54 : decode cX3_fittingIn 54 = .ok (.invokestatic 61, 3) := by decide +kernel
theorem dX3_fittingIn_57 : decode cX3_fittingIn 57 = .ok (.ifCond .eq 7, 3) := by decide +kernel
theorem dX3_fittingIn_60 : decode cX3_fittingIn 60 = .ok (.iconst 1, 1) := by decide +kernel
theorem dX3_fittingIn_61 : decode cX3_fittingIn 61 = .ok (.goto 4, 3) := by decide +kernel
theorem dX3_fittingIn_64 : decode cX3_fittingIn 64 = .ok (.iconst 0, 1) := by decide +kernel
theorem dX3_fittingIn_65 : decode cX3_fittingIn 65 = .ok (.iadd, 1) := by decide +kernel
theorem dX3_fittingIn_66 : decode cX3_fittingIn 66 = .ok (.istore 7, 2) := by decide +kernel
theorem dX3_fittingIn_68 : decode cX3_fittingIn 68 = .ok (.iinc 8 1, 3) := by decide +kernel
theorem dX3_fittingIn_71 : decode cX3_fittingIn 71 = .ok (.goto (-52), 3) := by decide +kernel
theorem dX3_fittingIn_74 : decode cX3_fittingIn 74 = .ok (.iload 7, 2) := by decide +kernel
theorem dX3_fittingIn_76 : decode cX3_fittingIn 76 = .ok (.ireturn, 1) := by decide +kernel
theorem dX4_init_0 : decode cX4_init 0 = .ok (.aload_n 0, 1) := by decide +kernel
theorem dX4_init_1 : decode cX4_init 1 = .ok (.invokespecial 5, 3) := by decide +kernel
theorem dX4_init_4 : decode cX4_init 4 = .ok (.aload_n 0, 1) := by decide +kernel
theorem dX4_init_5 : decode cX4_init 5 = .ok (.iconst (-1), 1) := by decide +kernel
theorem dX4_init_6 : decode cX4_init 6 = .ok (.putfield 11, 3) := by decide +kernel
theorem dX4_init_9 : decode cX4_init 9 = .ok (.aload_n 0, 1) := by decide +kernel
theorem dX4_init_10 : decode cX4_init 10 = .ok (.iconst 0, 1) := by decide +kernel
theorem dX4_init_11 : decode cX4_init 11 = .ok (.putfield 17, 3) := by decide +kernel
theorem dX4_init_14 : decode cX4_init 14 = .ok (.aload_n 0, 1) := by decide +kernel
theorem dX4_init_15 : decode cX4_init 15 = .ok (.iconst 0, 1) := by decide +kernel
theorem dX4_init_16 : decode cX4_init 16 = .ok (.putfield 20, 3) := by decide +kernel
theorem dX4_init_19 : decode cX4_init 19 = .ok (.aload_n 0, 1) := by decide +kernel
theorem dX4_init_20 : decode cX4_init 20 = .ok (.iconst 0, 1) := by decide +kernel
theorem dX4_init_21 : decode cX4_init 21 = .ok (.putfield 23, 3) := by decide +kernel
theorem dX4_init_24 : decode cX4_init 24 = .ok (.aload_n 0, 1) := by decide +kernel
theorem dX4_init_25 : decode cX4_init 25 = .ok (.iconst (-1), 1) := by decide +kernel
theorem dX4_init_26 : decode cX4_init 26 = .ok (.putfield 26, 3) := by decide +kernel
theorem dX4_init_29 : decode cX4_init 29 = .ok (.aload_n 0, 1) := by decide +kernel
theorem dX4_init_30 : decode cX4_init 30 = .ok (.iconst 3, 1) := by decide +kernel
theorem dX4_init_31 : decode cX4_init 31 = .ok (.newarray .int, 2) := by decide +kernel
theorem dX4_init_33 : decode cX4_init 33 = .ok (.putfield 29, 3) := by decide +kernel
theorem dX4_init_36 : decode cX4_init 36 = .ok (.aload_n 0, 1) := by decide +kernel
theorem dX4_init_37 : decode cX4_init 37 = .ok (.iconst 3, 1) := by decide +kernel
theorem dX4_init_38 : decode cX4_init 38 = .ok (.newarray .int, 2) := by decide +kernel
theorem dX4_init_40 : decode cX4_init 40 = .ok (.putfield 33, 3) := by decide +kernel
theorem dX4_init_43 : decode cX4_init 43 = .ok (.aload_n 0, 1) := by decide +kernel
theorem dX4_init_44 : decode cX4_init 44 = .ok (.bipush 21, 2) := by decide +kernel
theorem dX4_init_46 : decode cX4_init 46 = .ok (.newarray .int, 2) := by decide +kernel
theorem dX4_init_48 : decode cX4_init 48 = .ok (.putfield 36, 3) := by decide +kernel
theorem dX4_init_51 : decode cX4_init 51 = .ok (.aload_n 0, 1) := by decide +kernel
theorem dX4_init_52 : decode cX4_init 52 = .ok (.bipush 21, 2) := by decide +kernel
theorem dX4_init_54 : decode cX4_init 54 = .ok (.newarray .int, 2) := by decide +kernel
theorem dX4_init_56 : decode cX4_init 56 = .ok (.putfield 39, 3) := by decide +kernel
theorem dX4_init_59 : decode cX4_init 59 = .ok (.return_, 1) := by decide +kernel
theorem dX4_read_0 : decode cX4_read 0 = .ok (.aload_n 0, 1) := by decide +kernel
theorem dX4_read_1 : decode cX4_read 1 = .ok (.iconst 0, 1) := by decide +kernel
theorem dX4_read_2 : decode cX4_read 2 = .ok (.putfield 20, 3) := by decide +kernel
theorem dX4_read_5 : decode cX4_read 5 = .ok (.aload_n 0, 1) := by decide +kernel
theorem dX4_read_6 : decode cX4_read 6 = .ok (.iconst 0, 1) := by decide +kernel
theorem dX4_read_7 : decode cX4_read 7 = .ok (.putfield 23, 3) := by decide +kernel
theorem dX4_read_10 : decode cX4_read 10 = .ok (.aload_n 0, 1) := by decide +kernel
theorem dX4_read_11 : decode cX4_read 11 = .ok (.iconst (-1), 1) := by decide +kernel
theorem dX4_read_12 : decode cX4_read 12 = .ok (.putfield 26, 3) := by decide +kernel
theorem dX4_read_15 : decode cX4_read 15 = .ok (.aload_n 1, 1) := by decide +kernel
theorem dX4_read_16 : decode cX4_read 16 = .ok (.invokevirtual 42, 3) := by decide +kernel
theorem dX4_read_19 : decode cX4_read 19 = .ok (.aload_n 0, 1) := by decide +kernel
theorem dX4_read_20 : decode cX4_read 20 = .ok (.aload_n 1, 1) := by decide +kernel
theorem dX4_read_21 : decode cX4_read 21 = .ok (.getfield 47, 3) := by decide +kernel
theorem dX4_read_24 : decode cX4_read 24 = .ok (.putfield 17, 3) := by decide +kernel
theorem dX4_read_27 : decode cX4_read 27 = .ok (.aload_n 1, 1) := by decide +kernel
theorem dX4_read_28 : decode cX4_read 28 = .ok (.getfield 50, 3) := by decide +kernel
theorem dX4_read_31 : decode cX4_read 31 = .ok (.ifCond .ne 5, 3) := by decide +kernel
theorem dX4_read_34 : decode cX4_read 34 = .ok (.iconst 0, 1) := by decide +kernel
theorem dX4_read_35 : decode cX4_read 35 = .ok (.ireturn, 1) := by decide +kernel
theorem dX4_read_36 : decode cX4_read 36 = .ok (.aload_n 0, 1) := by decide +kernel
theorem dX4_read_37 : decode cX4_read 37 = .ok (.aload_n 1, 1) := by decide +kernel
theorem dX4_read_38 : decode cX4_read 38 = .ok (.iload_n 2, 1) := by decide +kernel
theorem dX4_read_39 : decode cX4_read 39 = .ok (.invokestatic 53, 3) := by decide +kernel
theorem dX4_read_42 : decode cX4_read 42 = .ok (.putfield 11, 3) := by decide +kernel
theorem dX4_read_45 : decode cX4_read 45 = .ok (.aload_n 0, 1) := by decide +kernel
theorem dX4_read_46 : decode cX4_read 46 = .ok (.getfield 11, 3) := by decide +kernel
theorem dX4_read_49 : decode cX4_read 49 = .ok (.iconst (-1), 1) := by decide +kernel
theorem dX4_read_50 : decode cX4_read 50 = .ok (.if_icmp .ne 5, 3) := by decide +kernel
theorem dX4_read_53 : decode cX4_read 53 = .ok (.iconst 1, 1) := by decide +kernel
theorem dX4_read_54 : decode cX4_read 54 = .ok (.ireturn, 1) := by decide +kernel
theorem dX4_read_55 : decode cX4_read 55 = .ok (.aload_n 1, 1) := by decide +kernel
theorem dX4_read_56 : decode cX4_read 56 = .ok (.invokevirtual 42, 3) := by decide +kernel
theorem dX4_read_59 : decode cX4_read 59 = .ok (.aload_n 0, 1) := by decide +kernel
theorem dX4_read_60 : decode cX4_read 60 = .ok (.getfield 11, 3) := by decide +kernel
theorem dX4_read_63 : decode cX4_read 63 = .ok (.invokestatic 57, 3) := by decide +kernel
theorem dX4_read_66 : decode cX4_read 66 = .ok (.astore_n 3, 1) := by decide +kernel
theorem dX4_read_67 : decode cX4_read 67 = .ok (.iconst 0, 1) := by decide +kernel
theorem dX4_read_68 : decode cX4_read 68 = .ok (.istore 4, 2) := by decide +kernel
theorem dX4_read_70 : decode cX4_read 70 = .ok (.iload 4, 2) := by decide +kernel
theorem dX4_read_72 : decode cX4_read 72 = .ok (.aload_n 3, 1) := by decide +kernel
theorem dX4_read_73 : decode cX4_read 73 = .ok (.invokevirtual 61, 3) := by decide +kernel
theorem dX4_read_76 : decode cX4_read 76 = .ok (.if_icmp .ge 41, 3) := by decide +kernel
theorem dX4_read_79 : decode cX4_read 79 = .ok (.aload_n 3, 1) := by decide +kernel
theorem dX4_read_80 : decode cX4_read 80 = .ok (.iload 4, 2) := by decide +kernel
theorem dX4_read_82 : decode cX4_read 82 = .ok (.invokevirtual 67, 3) := by decide +kernel
theorem dX4_read_85 : decode cX4_read 85 = .ok (.bipush 110, 2) := by decide +kernel
theorem dX4_read_87 : decode cX4_read 87 = .ok (.if_icmp .ne 14, 3) := by decide +kernel
theorem dX4_read_90 : decode cX4_read 90 = .ok (.aload_n 0, 1) := by decide +kernel
theorem dX4_read_91 : decode cX4_read 91 = .ok (.aload_n 1, 1) := by decide +kernel
theorem dX4_read_92 : decode cX4_read 92 = .ok (.invokevirtual 71, 3) := by decide +kernel
theorem dX4_read_95 : decode cX4_read 95 = .ok (.ifCond .ne 16, 3) := by decide +kernel
theorem dX4_read_98 : decode cX4_read 98 = .ok (.goto 11, 3) := by decide +kernel
theorem dX4_read_101 : decode cX4_read 101 = .ok (.aload_n 0, 1) := by decide +kernel
theorem dX4_read_102 : decode cX4_read 102 = .ok (.aload_n 1, 1) := by decide +kernel
theorem dX4_read_103 : decode cX4_read 103 = .ok (.invokevirtual 75, 3) := by decide +kernel
theorem dX4_read_106 : decode cX4_read 106 = .ok (.ifCond .ne 5, 3) := by decide +kernel
theorem dX4_read_109 : decode cX4_read 109 = .ok (.iconst 1, 1) := by decide +kernel
theorem dX4_read_110 : decode cX4_read 110 = .ok (.ireturn, 1) := by decide +kernel
theorem dX4_read_111 : decode cX4_read 111 = .ok (.iinc 4 1, 3) := by decide +kernel
theorem dX4_read_114 : decode cX4_read 114 = .ok (.goto (-44), 3) := by decide +kernel
theorem dX4_read_117 : decode cX4_read 117 = .ok (.aload_n 0, 1) := by decide +kernel
theorem dX4_read_118 : decode cX4_read 118 = .ok (.getfield 11, 3) := by decide +kernel
theorem dX4_read_121 : decode cX4_read 121 = .ok (.bipush 8, 2) := by decide +kernel
theorem dX4_read_123 : decode cX4_read 123 = .ok (.if_icmp .eq 19, 3) := by decide +kernel
theorem dX4_read_126 : decode cX4_read 126 = .ok (.aload_n 0, 1) := by decide +kernel
theorem dX4_read_127 : decode cX4_read 127 = .ok (.getfield 11, 3) := by decide +kernel
theorem dX4_read_130 : decode cX4_read 130 = .ok (.bipush 9, 2) := by decide +kernel
theorem dX4_read_132 : decode cX4_read 132 = .ok (.if_icmp .eq 10, 3) := by decide +kernel
theorem dX4_read_135 : decode cX4_read 135 = .ok (.aload_n 0, 1) := by decide +kernel
theorem dX4_read_136 : decode cX4_read 136 = .ok (.getfield 11, 3) := by decide +kernel
theorem dX4_read_139 : decode cX4_read 139 = .ok (.ifCond .ne 7, 3) := by decide +kernel
theorem dX4_read_142 : decode cX4_read 142 = .ok (.iconst 1, 1) := by decide +kernel
theorem dX4_read_143 : decode cX4_read 143 = .ok (.goto 4, 3) := by decide +kernel
theorem dX4_read_146 : decode cX4_read 146 = .ok (.iconst 0, 1) := by decide +kernel
theorem dX4_read_147 : decode cX4_read 147 = .ok (.istore 4, 2) := by decide +kernel
theorem dX4_read_149 : decode cX4_read 149 = .ok (.iconst 0, 1) := by decide +kernel
theorem dX4_read_150 : decode cX4_read 150 = .ok (.istore 5, 2) := by decide +kernel
theorem dX4_read_152 : decode cX4_read 152 = .ok (.iload 5, 2) := by decide +kernel
theorem dX4_read_154 : decode cX4_read 154 = .ok (.sipush 600, 3) := by decide +kernel
theorem dX4_read_157 : decode cX4_read 157 = .ok (.if_icmp .ge 21, 3) := by decide +kernel
theorem dX4_read_160 : decode cX4_read 160 = .ok (.iload 4, 2) := by decide +kernel
theorem dX4_read_162 : decode cX4_read 162 = .ok (.ifCond .eq 16, 3) := by decide +kernel
theorem dX4_read_165 : decode cX4_read 165 = .ok (.aload_n 0, 1) := by decide +kernel
theorem dX4_read_166 : decode cX4_read 166 = .ok (.aload_n 1, 1) := by decide +kernel
theorem dX4_read_167 : decode cX4_read 167 = .ok (.invokevirtual 75, 3) := by decide +kernel
theorem dX4_read_170 : decode cX4_read 170 = .ok (.istore 4, 2) := by decide +kernel
theorem dX4_read_172 : decode cX4_read 172 = .ok (.iinc 5 1, 3) := by decide +kernel
theorem dX4_read_175 : decode cX4_read 175 = .ok (.goto (-23), 3) := by decide +kernel
theorem dX4_read_178 : decode cX4_read 178 = .ok (.aload_n 1, 1) := by decide +kernel
theorem dX4_read_179 : decode cX4_read 179 = .ok (.getfield 50, 3) := by decide +kernel
theorem dX4_read_182 : decode cX4_read 182 = .ok (.iconst 3, 1) := by decide +kernel
theorem dX4_read_183 : decode cX4_read 183 = .ok (.if_icmp .ne 7, 3) := by decide +kernel
theorem dX4_read_186 : decode cX4_read 186 = .ok (.iconst 2, 1) := by decide +kernel
theorem dX4_read_187 : decode cX4_read 187 = .ok (.goto 4, 3) := by decide +kernel
theorem dX4_read_190 : decode cX4_read 190 = .ok (.iconst 1, 1) := by decide +kernel
theorem dX4_read_191 : decode cX4_read 191 = .ok (.ireturn, 1) := by decide +kernel
theorem dX4_takesNumber_0 : decode cX4_takesNumber 0 = .ok (.aload_n 1, 1) := by decide +kernel
theorem dX4_takesNumber_1 : decode cX4_takesNumber 1 = .ok (.getfield 50, 3) := by decide +kernel
theorem dX4_takesNumber_4 : decode cX4_takesNumber 4 = .ok (.iconst 2, 1) := by decide +kernel
theorem dX4_takesNumber_5 : decode cX4_takesNumber 5 = .ok (.if_icmp .eq 5, 3) := by decide +kernel
theorem dX4_takesNumber_8 : decode cX4_takesNumber 8 = .ok (.iconst 0, 1) := by decide +kernel
theorem dX4_takesNumber_9 : decode cX4_takesNumber 9 = .ok (.ireturn, 1) := by decide +kernel
theorem dX4_takesNumber_10 : decode cX4_takesNumber 10 = .ok (.aload_n 0, 1) := by decide +kernel
theorem dX4_takesNumber_11 : decode cX4_takesNumber 11 = .ok (.getfield 29, 3) := by decide +kernel
theorem dX4_takesNumber_14 : decode cX4_takesNumber 14 = .ok (.aload_n 0, 1) := by decide +kernel
theorem dX4_takesNumber_15 : decode cX4_takesNumber 15 = .ok (.getfield 20, 3) := by decide +kernel
theorem dX4_takesNumber_18 : decode cX4_takesNumber 18 = .ok (.aload_n 1, 1) := by decide +kernel
theorem dX4_takesNumber_19 : decode cX4_takesNumber 19 = .ok (.invokevirtual 78, 3) := by decide +kernel
theorem dX4_takesNumber_22 : decode cX4_takesNumber 22 = .ok (.invokestatic 81, 3) := by decide +kernel
theorem dX4_takesNumber_25 : decode cX4_takesNumber 25 = .ok (.aload_n 0, 1) := by decide +kernel
theorem dX4_takesNumber_26 : decode cX4_takesNumber 26 = .ok (.getfield 33, 3) := by decide +kernel
theorem dX4_takesNumber_29 : decode cX4_takesNumber 29 = .ok (.aload_n 0, 1) := by decide +kernel
theorem dX4_takesNumber_30 : decode cX4_takesNumber 30 = .ok (.getfield 20, 3) := by decide +kernel
theorem dX4_takesNumber_33 : decode cX4_takesNumber 33 = .ok (.aload_n 1, 1) := by decide +kernel
theorem dX4_takesNumber_34 : decode cX4_takesNumber 34 = .ok (.getfield 47, 3) := by decide +kernel
theorem dX4_takesNumber_37 : decode cX4_takesNumber 37 = .ok (.invokestatic 81, 3) := by decide +kernel
theorem dX4_takesNumber_40 : decode cX4_takesNumber 40 = .ok (.aload_n 0, 1) := by decide +kernel
theorem dX4_takesNumber_41 : decode cX4_takesNumber 41 = .ok (.dup, 1) := by decide +kernel
theorem dX4_takesNumber_42 : decode cX4_takesNumber 42 = .ok (.getfield 20, 3) := by decide +kernel
theorem dX4_takesNumber_45 : decode cX4_takesNumber 45 = .ok (.iconst 1, 1) := by decide +kernel
theorem dX4_takesNumber_46 : decode cX4_takesNumber 46 = .ok (.iadd, 1) := by decide +kernel
theorem dX4_takesNumber_47 : decode cX4_takesNumber 47 = .ok (.putfield 20, 3) := by decide +kernel
theorem dX4_takesNumber_50 : decode cX4_takesNumber 50 = .ok (.aload_n 1, 1) := by decide +kernel
theorem dX4_takesNumber_51 : decode cX4_takesNumber 51 = .ok (.invokevirtual 42, 3) := by decide +kernel
theorem dX4_takesNumber_54 : decode cX4_takesNumber 54 = .ok (.iconst 1, 1) := by decide +kernel
theorem dX4_takesNumber_55 : decode cX4_takesNumber 55 = .ok (.ireturn, 1) := by decide +kernel
theorem dX4_takesWord_0 : decode cX4_takesWord 0 = .ok (.aload_n 1, 1) := by decide +kernel
theorem dX4_takesWord_1 : decode cX4_takesWord 1 = .ok (.getfield 50, 3) := by decide +kernel
theorem dX4_takesWord_4 : decode cX4_takesWord 4 = .ok (.iconst 1, 1) := by decide +kernel
theorem dX4_takesWord_5 : decode cX4_takesWord 5 = .ok (.if_icmp .eq 5, 3) := by decide +kernel
theorem dX4_takesWord_8 : decode cX4_takesWord 8 = .ok (.iconst 0, 1) := by decide +kernel
theorem dX4_takesWord_9 : decode cX4_takesWord 9 = .ok (.ireturn, 1) := by decide +kernel
theorem dX4_takesWord_10 : decode cX4_takesWord 10 = .ok (.aload_n 1, 1) := by decide +kernel
theorem dX4_takesWord_11 : decode cX4_takesWord 11 = .ok (.invokevirtual 87, 3) := by decide +kernel
theorem dX4_takesWord_14 : decode cX4_takesWord 14 = .ok (.ifCond .ne 19, 3) := by decide +kernel
theorem dX4_takesWord_17 : decode cX4_takesWord 17 = .ok (.aload_n 0, 1) := by decide +kernel
theorem dX4_takesWord_18 : decode cX4_takesWord 18 = .ok (.getfield 26, 3) := by decide +kernel
theorem dX4_takesWord_21 : decode cX4_takesWord 21 = .ok (.iconst (-1), 1) := by decide +kernel
theorem dX4_takesWord_22 : decode cX4_takesWord 22 = .ok (.if_icmp .ne 11, 3) := by decide +kernel
theorem dX4_takesWord_25 : decode cX4_takesWord 25 = .ok (.aload_n 0, 1) := by decide +kernel
theorem dX4_takesWord_26 : decode cX4_takesWord 26 = .ok (.aload_n 1, 1) := by decide +kernel
theorem dX4_takesWord_27 : decode cX4_takesWord 27 = .ok (.getfield 47, 3) := by decide +kernel
theorem dX4_takesWord_30 : decode cX4_takesWord 30 = .ok (.putfield 26, 3) := by decide +kernel
theorem dX4_takesWord_33 : decode cX4_takesWord 33 = .ok (.aload_n 0, 1) := by decide +kernel
theorem dX4_takesWord_34 : decode cX4_takesWord 34 = .ok (.getfield 36, 3) := by decide +kernel
theorem dX4_takesWord_37 : decode cX4_takesWord 37 = .ok (.aload_n 0, 1) := by decide +kernel
theorem dX4_takesWord_38 : decode cX4_takesWord 38 = .ok (.getfield 23, 3) := by decide +kernel
theorem dX4_takesWord_41 : decode cX4_takesWord 41 = .ok (.aload_n 1, 1) := by decide +kernel
theorem dX4_takesWord_42 : decode cX4_takesWord 42 = .ok (.invokevirtual 91, 3) := by decide +kernel
theorem dX4_takesWord_45 : decode cX4_takesWord 45 = .ok (.invokestatic 81, 3) := by decide +kernel
theorem dX4_takesWord_48 : decode cX4_takesWord 48 = .ok (.aload_n 0, 1) := by decide +kernel
theorem dX4_takesWord_49 : decode cX4_takesWord 49 = .ok (.getfield 39, 3) := by decide +kernel
theorem dX4_takesWord_52 : decode cX4_takesWord 52 = .ok (.aload_n 0, 1) := by decide +kernel
theorem dX4_takesWord_53 : decode cX4_takesWord 53 = .ok (.getfield 23, 3) := by decide +kernel
theorem dX4_takesWord_56 : decode cX4_takesWord 56 = .ok (.aload_n 1, 1) := by decide +kernel
theorem dX4_takesWord_57 : decode cX4_takesWord 57 = .ok (.getfield 47, 3) := by decide +kernel
theorem dX4_takesWord_60 : decode cX4_takesWord 60 = .ok (.invokestatic 81, 3) := by decide +kernel
theorem dX4_takesWord_63 : decode cX4_takesWord 63 = .ok (.aload_n 0, 1) := by decide +kernel
theorem dX4_takesWord_64 : decode cX4_takesWord 64 = .ok (.dup, 1) := by decide +kernel
theorem dX4_takesWord_65 : decode cX4_takesWord 65 = .ok (.getfield 23, 3) := by decide +kernel
theorem dX4_takesWord_68 : decode cX4_takesWord 68 = .ok (.iconst 1, 1) := by decide +kernel
theorem dX4_takesWord_69 : decode cX4_takesWord 69 = .ok (.iadd, 1) := by decide +kernel
theorem dX4_takesWord_70 : decode cX4_takesWord 70 = .ok (.putfield 23, 3) := by decide +kernel
theorem dX4_takesWord_73 : decode cX4_takesWord 73 = .ok (.aload_n 1, 1) := by decide +kernel
theorem dX4_takesWord_74 : decode cX4_takesWord 74 = .ok (.invokevirtual 42, 3) := by decide +kernel
theorem dX4_takesWord_77 : decode cX4_takesWord 77 = .ok (.iconst 1, 1) := by decide +kernel
theorem dX4_takesWord_78 : decode cX4_takesWord 78 = .ok (.ireturn, 1) := by decide +kernel
theorem dX4_value_0 : decode cX4_value 0 = .ok (.aload_n 0, 1) := by decide +kernel
theorem dX4_value_1 : decode cX4_value 1 = .ok (.getfield 29, 3) := by decide +kernel
theorem dX4_value_4 : decode cX4_value 4 = .ok (.iload_n 1, 1) := by decide +kernel
theorem dX4_value_5 : decode cX4_value 5 = .ok (.invokestatic 94, 3) := by decide +kernel
theorem dX4_value_8 : decode cX4_value 8 = .ok (.ireturn, 1) := by decide +kernel
theorem dX4_kindOf_0 : decode cX4_kindOf 0 = .ok (.iconst 0, 1) := by decide +kernel
theorem dX4_kindOf_1 : decode cX4_kindOf 1 = .ok (.istore_n 2, 1) := by decide +kernel
theorem dX4_kindOf_2 : decode cX4_kindOf 2 = .ok (.iload_n 2, 1) := by decide +kernel
theorem dX4_kindOf_3 : decode cX4_kindOf 3 = .ok (.bipush 15, 2) := by decide +kernel
theorem dX4_kindOf_5 : decode cX4_kindOf 5 = .ok (.if_icmp .ge 30, 3) := by decide +kernel
theorem dX4_kindOf_8 : decode cX4_kindOf 8 = .ok (.iload_n 2, 1) := by decide +kernel
theorem dX4_kindOf_9 : decode cX4_kindOf 9 = .ok (.invokestatic 98, 3) := by decide +kernel
theorem dX4_kindOf_12 : decode cX4_kindOf 12 = .ok (.iload_n 1, 1) := by decide +kernel
theorem dX4_kindOf_13 : decode cX4_kindOf 13 = .ok (.if_icmp .ne 16, 3) := by decide +kernel
theorem dX4_kindOf_16 : decode cX4_kindOf 16 = .ok (.aload_n 0, 1) := by decide +kernel
theorem dX4_kindOf_17 : decode cX4_kindOf 17 = .ok (.iload_n 2, 1) := by decide +kernel
theorem dX4_kindOf_18 : decode cX4_kindOf 18 = .ok (.invokestatic 102, 3) := by decide +kernel
theorem dX4_kindOf_21 : decode cX4_kindOf 21 = .ok (.invokevirtual 105, 3) := by decide +kernel
theorem dX4_kindOf_24 : decode cX4_kindOf 24 = .ok (.ifCond .eq 5, 3) := by decide +kernel
theorem dX4_kindOf_27 : decode cX4_kindOf 27 = .ok (.iload_n 2, 1) := by decide +kernel
theorem dX4_kindOf_28 : decode cX4_kindOf 28 = .ok (.ireturn, 1) := by decide +kernel
theorem dX4_kindOf_29 : decode cX4_kindOf 29 = .ok (.iinc 2 1, 3) := by decide +kernel
theorem dX4_kindOf_32 : decode cX4_kindOf 32 = .ok (.goto (-30), 3) := by decide +kernel
theorem dX4_kindOf_35 : decode cX4_kindOf 35 = .ok (.iconst (-1), 1) := by decide +kernel
theorem dX4_kindOf_36 : decode cX4_kindOf 36 = .ok (.ireturn, 1) := by decide +kernel
theorem dX4_sortOf_0 : decode cX4_sortOf 0 = .ok (.iload_n 0, 1) := by decide +kernel
theorem dX4_sortOf_1 : decode cX4_sortOf 1 = .ok (.bipush 8, 2) := by decide +kernel
theorem dX4_sortOf_3 : decode cX4_sortOf 3 = .ok (.if_icmp .ge 5, 3) := by decide +kernel
theorem dX4_sortOf_6 : decode cX4_sortOf 6 = .ok (.iconst 1, 1) := by decide +kernel
theorem dX4_sortOf_7 : decode cX4_sortOf 7 = .ok (.ireturn, 1) := by decide +kernel
theorem dX4_sortOf_8 : decode cX4_sortOf 8 = .ok (.iload_n 0, 1) := by decide +kernel
theorem dX4_sortOf_9 : decode cX4_sortOf 9 = .ok (.bipush 13, 2) := by decide +kernel
theorem dX4_sortOf_11 : decode cX4_sortOf 11 = .ok (.if_icmp .ge 7, 3) := by decide +kernel
theorem dX4_sortOf_14 : decode cX4_sortOf 14 = .ok (.iconst 0, 1) := by decide +kernel
theorem dX4_sortOf_15 : decode cX4_sortOf 15 = .ok (.goto 4, 3) := by decide +kernel
theorem dX4_sortOf_18 : decode cX4_sortOf 18 = .ok (.iconst 2, 1) := by decide +kernel
theorem dX4_sortOf_19 : decode cX4_sortOf 19 = .ok (.ireturn, 1) := by decide +kernel
theorem dX4_keywordOf_0 : decode cX4_keywordOf 0 = .ok (.iload_n 0, 1) := by decide +kernel
theorem dX4_keywordOf_1 : decode cX4_keywordOf 1 = .ok (.tableswitch 113 0 13 #[71, 74, 77, 80, 83, 86, 89, 92, 95, 98, 101, 104, 107, 110], 71) := by decide +kernel
theorem dX4_keywordOf_72 : decode cX4_keywordOf 72 = .ok (.ldc 111, 2) := by decide +kernel
theorem dX4_keywordOf_74 : decode cX4_keywordOf 74 = .ok (.areturn, 1) := by decide +kernel
theorem dX4_keywordOf_75 : decode cX4_keywordOf 75 = .ok (.ldc 113, 2) := by decide +kernel
theorem dX4_keywordOf_77 : decode cX4_keywordOf 77 = .ok (.areturn, 1) := by decide +kernel
theorem dX4_keywordOf_78 : decode cX4_keywordOf 78 = .ok (.ldc 115, 2) := by decide +kernel
theorem dX4_keywordOf_80 : decode cX4_keywordOf 80 = .ok (.areturn, 1) := by decide +kernel
theorem dX4_keywordOf_81 : decode cX4_keywordOf 81 = .ok (.ldc 117, 2) := by decide +kernel
theorem dX4_keywordOf_83 : decode cX4_keywordOf 83 = .ok (.areturn, 1) := by decide +kernel
theorem dX4_keywordOf_84 : decode cX4_keywordOf 84 = .ok (.ldc 119, 2) := by decide +kernel
theorem dX4_keywordOf_86 : decode cX4_keywordOf 86 = .ok (.areturn, 1) := by decide +kernel
theorem dX4_keywordOf_87 : decode cX4_keywordOf 87 = .ok (.ldc 121, 2) := by decide +kernel
theorem dX4_keywordOf_89 : decode cX4_keywordOf 89 = .ok (.areturn, 1) := by decide +kernel
theorem dX4_keywordOf_90 : decode cX4_keywordOf 90 = .ok (.ldc 123, 2) := by decide +kernel
theorem dX4_keywordOf_92 : decode cX4_keywordOf 92 = .ok (.areturn, 1) := by decide +kernel
theorem dX4_keywordOf_93 : decode cX4_keywordOf 93 = .ok (.ldc 125, 2) := by decide +kernel
theorem dX4_keywordOf_95 : decode cX4_keywordOf 95 = .ok (.areturn, 1) := by decide +kernel
theorem dX4_keywordOf_96 : decode cX4_keywordOf 96 = .ok (.ldc 127, 2) := by decide +kernel
theorem dX4_keywordOf_98 : decode cX4_keywordOf 98 = .ok (.areturn, 1) := by decide +kernel
theorem dX4_keywordOf_99 : decode cX4_keywordOf 99 = .ok (.ldc 129, 2) := by decide +kernel
theorem dX4_keywordOf_101 : decode cX4_keywordOf 101 = .ok (.areturn, 1) := by decide +kernel
theorem dX4_keywordOf_102 : decode cX4_keywordOf 102 = .ok (.ldc 131, 2) := by decide +kernel
theorem dX4_keywordOf_104 : decode cX4_keywordOf 104 = .ok (.areturn, 1) := by decide +kernel
theorem dX4_keywordOf_105 : decode cX4_keywordOf 105 = .ok (.ldc 133, 2) := by decide +kernel
theorem dX4_keywordOf_107 : decode cX4_keywordOf 107 = .ok (.areturn, 1) := by decide +kernel
theorem dX4_keywordOf_108 : decode cX4_keywordOf 108 = .ok (.ldc 135, 2) := by decide +kernel
theorem dX4_keywordOf_110 : decode cX4_keywordOf 110 = .ok (.areturn, 1) := by decide +kernel
theorem dX4_keywordOf_111 : decode cX4_keywordOf 111 = .ok (.ldc 137, 2) := by decide +kernel
theorem dX4_keywordOf_113 : decode cX4_keywordOf 113 = .ok (.areturn, 1) := by decide +kernel
theorem dX4_keywordOf_114 : decode cX4_keywordOf 114 = .ok (.ldc 139, 2) := by decide +kernel
theorem dX4_keywordOf_116 : decode cX4_keywordOf 116 = .ok (.areturn, 1) := by decide +kernel
theorem dX4_shapeOf_0 : decode cX4_shapeOf 0 = .ok (.iload_n 0, 1) := by decide +kernel
theorem dX4_shapeOf_1 : decode cX4_shapeOf 1 = .ok (.tableswitch 81 0 11 #[66, 69, 72, 75, 75, 75, 81, 81, 63, 81, 78, 78], 63) := by decide +kernel
theorem dX4_shapeOf_64 : decode cX4_shapeOf 64 = .ok (.ldc 141, 2) := by decide +kernel
theorem dX4_shapeOf_66 : decode cX4_shapeOf 66 = .ok (.areturn, 1) := by decide +kernel
theorem dX4_shapeOf_67 : decode cX4_shapeOf 67 = .ok (.ldc 143, 2) := by decide +kernel
theorem dX4_shapeOf_69 : decode cX4_shapeOf 69 = .ok (.areturn, 1) := by decide +kernel
theorem dX4_shapeOf_70 : decode cX4_shapeOf 70 = .ok (.ldc 145, 2) := by decide +kernel
theorem dX4_shapeOf_72 : decode cX4_shapeOf 72 = .ok (.areturn, 1) := by decide +kernel
theorem dX4_shapeOf_73 : decode cX4_shapeOf 73 = .ok (.ldc 147, 2) := by decide +kernel
theorem dX4_shapeOf_75 : decode cX4_shapeOf 75 = .ok (.areturn, 1) := by decide +kernel
theorem dX4_shapeOf_76 : decode cX4_shapeOf 76 = .ok (.ldc 149, 2) := by decide +kernel
theorem dX4_shapeOf_78 : decode cX4_shapeOf 78 = .ok (.areturn, 1) := by decide +kernel
theorem dX4_shapeOf_79 : decode cX4_shapeOf 79 = .ok (.ldc 151, 2) := by decide +kernel
theorem dX4_shapeOf_81 : decode cX4_shapeOf 81 = .ok (.areturn, 1) := by decide +kernel
theorem dX4_shapeOf_82 : decode cX4_shapeOf 82 = .ok (.ldc 153, 2) := by decide +kernel
theorem dX4_shapeOf_84 : decode cX4_shapeOf 84 = .ok (.areturn, 1) := by decide +kernel
theorem dX5_at_0 : decode cX5_at 0 = .ok (.iload_n 1, 1) := by decide +kernel
theorem dX5_at_1 : decode cX5_at 1 = .ok (.ifCond .lt 15, 3) := by decide +kernel
theorem dX5_at_4 : decode cX5_at 4 = .ok (.iload_n 1, 1) := by decide +kernel
theorem dX5_at_5 : decode cX5_at 5 = .ok (.aload_n 0, 1) := by decide +kernel
theorem dX5_at_6 : decode cX5_at 6 = .ok (.arraylength, 1) := by decide +kernel
theorem dX5_at_7 : decode cX5_at 7 = .ok (.if_icmp .ge 9, 3) := by decide +kernel
theorem dX5_at_10 : decode cX5_at 10 = .ok (.aload_n 0, 1) := by decide +kernel
theorem dX5_at_11 : decode cX5_at 11 = .ok (.iload_n 1, 1) := by decide +kernel
theorem dX5_at_12 : decode cX5_at 12 = .ok (.iaload, 1) := by decide +kernel
theorem dX5_at_13 : decode cX5_at 13 = .ok (.goto 4, 3) := by decide +kernel
theorem dX5_at_16 : decode cX5_at 16 = .ok (.iconst 0, 1) := by decide +kernel
theorem dX5_at_17 : decode cX5_at 17 = .ok (.ireturn, 1) := by decide +kernel
theorem dX5_set_0 : decode cX5_set 0 = .ok (.iload_n 1, 1) := by decide +kernel
theorem dX5_set_1 : decode cX5_set 1 = .ok (.ifCond .lt 13, 3) := by decide +kernel
theorem dX5_set_4 : decode cX5_set 4 = .ok (.iload_n 1, 1) := by decide +kernel
theorem dX5_set_5 : decode cX5_set 5 = .ok (.aload_n 0, 1) := by decide +kernel
theorem dX5_set_6 : decode cX5_set 6 = .ok (.arraylength, 1) := by decide +kernel
theorem dX5_set_7 : decode cX5_set 7 = .ok (.if_icmp .ge 7, 3) := by decide +kernel
theorem dX5_set_10 : decode cX5_set 10 = .ok (.aload_n 0, 1) := by decide +kernel
theorem dX5_set_11 : decode cX5_set 11 = .ok (.iload_n 1, 1) := by decide +kernel
theorem dX5_set_12 : decode cX5_set 12 = .ok (.iload_n 2, 1) := by decide +kernel
theorem dX5_set_13 : decode cX5_set 13 = .ok (.iastore, 1) := by decide +kernel
theorem dX5_set_14 : decode cX5_set 14 = .ok (.return_, 1) := by decide +kernel
theorem dX5_copy_0 : decode cX5_copy 0 = .ok (.aload_n 0, 1) := by decide +kernel
theorem dX5_copy_1 : decode cX5_copy 1 = .ok (.iconst 0, 1) := by decide +kernel
theorem dX5_copy_2 : decode cX5_copy 2 = .ok (.aload_n 1, 1) := by decide +kernel
theorem dX5_copy_3 : decode cX5_copy 3 = .ok (.iconst 0, 1) := by decide +kernel
theorem dX5_copy_4 : decode cX5_copy 4 = .ok (.aload_n 0, 1) := by decide +kernel
theorem dX5_copy_5 : decode cX5_copy 5 = .ok (.arraylength, 1) := by decide +kernel
theorem dX5_copy_6 : decode cX5_copy 6 = .ok (.aload_n 1, 1) := by decide +kernel
theorem dX5_copy_7 : decode cX5_copy 7 = .ok (.arraylength, 1) := by decide +kernel
theorem dX5_copy_8 : decode cX5_copy 8 = .ok (.invokestatic 11, 3) := by decide +kernel
theorem dX5_copy_11 : decode cX5_copy 11 = .ok (.invokestatic 17, 3) := by decide +kernel
theorem dX5_copy_14 : decode cX5_copy 14 = .ok (.return_, 1) := by decide +kernel
theorem dX5_bit_0 : decode cX5_bit 0 = .ok (.iload_n 1, 1) := by decide +kernel
theorem dX5_bit_1 : decode cX5_bit 1 = .ok (.ifCond .lt 17, 3) := by decide +kernel
theorem dX5_bit_4 : decode cX5_bit 4 = .ok (.iload_n 1, 1) := by decide +kernel
theorem dX5_bit_5 : decode cX5_bit 5 = .ok (.bipush 32, 2) := by decide +kernel
theorem dX5_bit_7 : decode cX5_bit 7 = .ok (.if_icmp .ge 11, 3) := by decide +kernel
theorem dX5_bit_10 : decode cX5_bit 10 = .ok (.iload_n 0, 1) := by decide +kernel
theorem dX5_bit_11 : decode cX5_bit 11 = .ok (.iload_n 1, 1) := by decide +kernel
theorem dX5_bit_12 : decode cX5_bit 12 = .ok (.iushr, 1) := by decide +kernel
theorem dX5_bit_13 : decode cX5_bit 13 = .ok (.iconst 1, 1) := by decide +kernel
theorem dX5_bit_14 : decode cX5_bit 14 = .ok (.iand, 1) := by decide +kernel
theorem dX5_bit_15 : decode cX5_bit 15 = .ok (.goto 4, 3) := by decide +kernel
theorem dX5_bit_18 : decode cX5_bit 18 = .ok (.iconst 0, 1) := by decide +kernel
theorem dX5_bit_19 : decode cX5_bit 19 = .ok (.ireturn, 1) := by decide +kernel
theorem dX5_firstBit_0 : decode cX5_firstBit 0 = .ok (.iload_n 0, 1) := by decide +kernel
theorem dX5_firstBit_1 : decode cX5_firstBit 1 = .ok (.ifCond .ne 7, 3) := by decide +kernel
theorem dX5_firstBit_4 : decode cX5_firstBit 4 = .ok (.iconst (-1), 1) := by decide +kernel
theorem dX5_firstBit_5 : decode cX5_firstBit 5 = .ok (.goto 12, 3) := by decide +kernel
theorem dX5_firstBit_8 : decode cX5_firstBit 8 = .ok (.iload_n 0, 1) := by decide +kernel
theorem dX5_firstBit_9 : decode cX5_firstBit 9 = .ok (.iload_n 0, 1) := by decide +kernel
theorem dX5_firstBit_10 : decode cX5_firstBit 10 = .ok (.ineg, 1) := by decide +kernel
theorem dX5_firstBit_11 : decode cX5_firstBit 11 = .ok (.iand, 1) := by decide +kernel
theorem dX5_firstBit_12 : decode cX5_firstBit 12 = .ok (.iconst 1, 1) := by decide +kernel
theorem dX5_firstBit_13 : decode cX5_firstBit 13 = .ok (.isub, 1) := by decide +kernel
theorem dX5_firstBit_14 : decode cX5_firstBit 14 = .ok (.invokestatic 23, 3) := by decide +kernel
theorem dX5_firstBit_17 : decode cX5_firstBit 17 = .ok (.ireturn, 1) := by decide +kernel
theorem dX5_lastBit_0 : decode cX5_lastBit 0 = .ok (.iconst (-1), 1) := by decide +kernel
theorem dX5_lastBit_1 : decode cX5_lastBit 1 = .ok (.istore_n 1, 1) := by decide +kernel
theorem dX5_lastBit_2 : decode cX5_lastBit 2 = .ok (.iconst 0, 1) := by decide +kernel
theorem dX5_lastBit_3 : decode cX5_lastBit 3 = .ok (.istore_n 2, 1) := by decide +kernel
theorem dX5_lastBit_4 : decode cX5_lastBit 4 = .ok (.iload_n 2, 1) := by decide +kernel
theorem dX5_lastBit_5 : decode cX5_lastBit 5 = .ok (.bipush 32, 2) := by decide +kernel
theorem dX5_lastBit_7 : decode cX5_lastBit 7 = .ok (.if_icmp .ge 20, 3) := by decide +kernel
theorem dX5_lastBit_10 : decode cX5_lastBit 10 = .ok (.iload_n 0, 1) := by decide +kernel
theorem dX5_lastBit_11 : decode cX5_lastBit 11 = .ok (.iload_n 2, 1) := by decide +kernel
theorem dX5_lastBit_12 : decode cX5_lastBit 12 = .ok (.invokestatic 29, 3) := by decide +kernel
theorem dX5_lastBit_15 : decode cX5_lastBit 15 = .ok (.iconst 1, 1) := by decide +kernel
theorem dX5_lastBit_16 : decode cX5_lastBit 16 = .ok (.if_icmp .ne 5, 3) := by decide +kernel
theorem dX5_lastBit_19 : decode cX5_lastBit 19 = .ok (.iload_n 2, 1) := by decide +kernel
theorem dX5_lastBit_20 : decode cX5_lastBit 20 = .ok (.istore_n 1, 1) := by decide +kernel
theorem dX5_lastBit_21 : decode cX5_lastBit 21 = .ok (.iinc 2 1, 3) := by decide +kernel
theorem dX5_lastBit_24 : decode cX5_lastBit 24 = .ok (.goto (-20), 3) := by decide +kernel
theorem dX5_lastBit_27 : decode cX5_lastBit 27 = .ok (.iload_n 1, 1) := by decide +kernel
theorem dX5_lastBit_28 : decode cX5_lastBit 28 = .ok (.ireturn, 1) := by decide +kernel
theorem dX5_runs_0 : decode cX5_runs 0 = .ok (.iload_n 0, 1) := by decide +kernel
theorem dX5_runs_1 : decode cX5_runs 1 = .ok (.iload_n 0, 1) := by decide +kernel
theorem dX5_runs_2 : decode cX5_runs 2 = .ok (.iconst 1, 1) := by decide +kernel
theorem dX5_runs_3 : decode cX5_runs 3 = .ok (.ishl, 1) := by decide +kernel
theorem dX5_runs_4 : decode cX5_runs 4 = .ok (.iconst (-1), 1) := by decide +kernel
theorem dX5_runs_5 : decode cX5_runs 5 = .ok (.ixor, 1) := by decide +kernel
theorem dX5_runs_6 : decode cX5_runs 6 = .ok (.iand, 1) := by decide +kernel
theorem dX5_runs_7 : decode cX5_runs 7 = .ok (.invokestatic 23, 3) := by decide +kernel
theorem dX5_runs_10 : decode cX5_runs 10 = .ok (.ireturn, 1) := by decide +kernel
theorem dX5_runAt_0 : decode cX5_runAt 0 = .ok (.iconst 0, 1) := by decide +kernel
theorem dX5_runAt_1 : decode cX5_runAt 1 = .ok (.istore_n 2, 1) := by decide +kernel
theorem dX5_runAt_2 : decode cX5_runAt 2 = .ok (.iconst (-1), 1) := by decide +kernel
theorem dX5_runAt_3 : decode cX5_runAt 3 = .ok (.istore_n 3, 1) := by decide +kernel
theorem dX5_runAt_4 : decode cX5_runAt 4 = .ok (.iconst 0, 1) := by decide +kernel
theorem dX5_runAt_5 : decode cX5_runAt 5 = .ok (.istore 4, 2) := by decide +kernel
theorem dX5_runAt_7 : decode cX5_runAt 7 = .ok (.iload 4, 2) := by decide +kernel
theorem dX5_runAt_9 : decode cX5_runAt 9 = .ok (.bipush 32, 2) := by decide +kernel
theorem dX5_runAt_11 : decode cX5_runAt 11 = .ok (.if_icmp .ge 48, 3) := by decide +kernel
theorem dX5_runAt_14 : decode cX5_runAt 14 = .ok (.iload_n 0, 1) := by decide +kernel
theorem dX5_runAt_15 : decode cX5_runAt 15 = .ok (.iload 4, 2) := by decide +kernel
theorem dX5_runAt_17 : decode cX5_runAt 17 = .ok (.invokestatic 29, 3) := by decide +kernel
theorem dX5_runAt_20 : decode cX5_runAt 20 = .ok (.iconst 1, 1) := by decide +kernel
theorem dX5_runAt_21 : decode cX5_runAt 21 = .ok (.if_icmp .ne 32, 3) := by decide +kernel
theorem dX5_runAt_24 : decode cX5_runAt 24 = .ok (.iload_n 3, 1) := by decide +kernel
theorem dX5_runAt_25 : decode cX5_runAt 25 = .ok (.iconst 1, 1) := by decide +kernel
theorem dX5_runAt_26 : decode cX5_runAt 26 = .ok (.iload_n 0, 1) := by decide +kernel
theorem dX5_runAt_27 : decode cX5_runAt 27 = .ok (.iload 4, 2) := by decide +kernel
theorem dX5_runAt_29 : decode cX5_runAt 29 = .ok (.iconst 1, 1) := by decide +kernel
theorem dX5_runAt_30 : decode cX5_runAt 30 = .ok (.isub, 1) := by decide +kernel
theorem dX5_runAt_31 : decode cX5_runAt 31 = .ok (.invokestatic 29, 3) := by decide +kernel
theorem dX5_runAt_34 : decode cX5_runAt 34 = .ok (.isub, 1) := by decide +kernel
theorem dX5_runAt_35 : decode cX5_runAt 35 = .ok (.iadd, 1) := by decide +kernel
theorem dX5_runAt_36 : decode cX5_runAt 36 = .ok (.istore_n 3, 1) := by decide +kernel
theorem dX5_runAt_37 : decode cX5_runAt 37 = .ok (.iload_n 2, 1) := by decide +kernel
theorem dX5_runAt_38 : decode cX5_runAt 38 = .ok (.iload_n 3, 1) := by decide +kernel
theorem dX5_runAt_39 : decode cX5_runAt 39 = .ok (.iload_n 1, 1) := by decide +kernel
theorem dX5_runAt_40 : decode cX5_runAt 40 = .ok (.if_icmp .ne 10, 3) := by decide +kernel
theorem dX5_runAt_43 : decode cX5_runAt 43 = .ok (.iconst 1, 1) := by decide +kernel
theorem dX5_runAt_44 : decode cX5_runAt 44 = .ok (.iload 4, 2) := by decide +kernel
theorem dX5_runAt_46 : decode cX5_runAt 46 = .ok (.ishl, 1) := by decide +kernel
theorem dX5_runAt_47 : decode cX5_runAt 47 = .ok (.goto 4, 3) := by decide +kernel
theorem dX5_runAt_50 : decode cX5_runAt 50 = .ok (.iconst 0, 1) := by decide +kernel
theorem dX5_runAt_51 : decode cX5_runAt 51 = .ok (.ior, 1) := by decide +kernel
theorem dX5_runAt_52 : decode cX5_runAt 52 = .ok (.istore_n 2, 1) := by decide +kernel
theorem dX5_runAt_53 : decode cX5_runAt 53 = .ok (.iinc 4 1, 3) := by decide +kernel
theorem dX5_runAt_56 : decode cX5_runAt 56 = .ok (.goto (-49), 3) := by decide +kernel
theorem dX5_runAt_59 : decode cX5_runAt 59 = .ok (.iload_n 2, 1) := by decide +kernel
theorem dX5_runAt_60 : decode cX5_runAt 60 = .ok (.ireturn, 1) := by decide +kernel
theorem dX5_wordNumber_0 : decode cX5_wordNumber 0 = .ok (.iload_n 0, 1) := by decide +kernel
theorem dX5_wordNumber_1 : decode cX5_wordNumber 1 = .ok (.istore_n 1, 1) := by decide +kernel
theorem dX5_wordNumber_2 : decode cX5_wordNumber 2 = .ok (.iconst 1, 1) := by decide +kernel
theorem dX5_wordNumber_3 : decode cX5_wordNumber 3 = .ok (.istore_n 2, 1) := by decide +kernel
theorem dX5_wordNumber_4 : decode cX5_wordNumber 4 = .ok (.iload_n 2, 1) := by decide +kernel
theorem dX5_wordNumber_5 : decode cX5_wordNumber 5 = .ok (.iconst 4, 1) := by decide +kernel
theorem dX5_wordNumber_6 : decode cX5_wordNumber 6 = .ok (.if_icmp .ge 21, 3) := by decide +kernel
theorem dX5_wordNumber_9 : decode cX5_wordNumber 9 = .ok (.iload_n 1, 1) := by decide +kernel
theorem dX5_wordNumber_10 : decode cX5_wordNumber 10 = .ok (.bipush 27, 2) := by decide +kernel
theorem dX5_wordNumber_12 : decode cX5_wordNumber 12 = .ok (.irem, 1) := by decide +kernel
theorem dX5_wordNumber_13 : decode cX5_wordNumber 13 = .ok (.ifCond .ne 8, 3) := by decide +kernel
theorem dX5_wordNumber_16 : decode cX5_wordNumber 16 = .ok (.iload_n 1, 1) := by decide +kernel
theorem dX5_wordNumber_17 : decode cX5_wordNumber 17 = .ok (.bipush 27, 2) := by decide +kernel
theorem dX5_wordNumber_19 : decode cX5_wordNumber 19 = .ok (.idiv, 1) := by decide +kernel
theorem dX5_wordNumber_20 : decode cX5_wordNumber 20 = .ok (.istore_n 1, 1) := by decide +kernel
theorem dX5_wordNumber_21 : decode cX5_wordNumber 21 = .ok (.iinc 2 1, 3) := by decide +kernel
theorem dX5_wordNumber_24 : decode cX5_wordNumber 24 = .ok (.goto (-20), 3) := by decide +kernel
theorem dX5_wordNumber_27 : decode cX5_wordNumber 27 = .ok (.iload_n 1, 1) := by decide +kernel
theorem dX5_wordNumber_28 : decode cX5_wordNumber 28 = .ok (.ireturn, 1) := by decide +kernel
theorem dX5_firstLetter_0 : decode cX5_firstLetter 0 = .ok (.iload_n 0, 1) := by decide +kernel
theorem dX5_firstLetter_1 : decode cX5_firstLetter 1 = .ok (.sipush 19683, 3) := by decide +kernel
theorem dX5_firstLetter_4 : decode cX5_firstLetter 4 = .ok (.idiv, 1) := by decide +kernel
theorem dX5_firstLetter_5 : decode cX5_firstLetter 5 = .ok (.ireturn, 1) := by decide +kernel
theorem dX6_init_0 : decode cX6_init 0 = .ok (.aload_n 0, 1) := by decide +kernel
theorem dX6_init_1 : decode cX6_init 1 = .ok (.invokespecial 3, 3) := by decide +kernel
theorem dX6_init_4 : decode cX6_init 4 = .ok (.aload_n 0, 1) := by decide +kernel
theorem dX6_init_5 : decode cX6_init 5 = .ok (.iconst 0, 1) := by decide +kernel
theorem dX6_init_6 : decode cX6_init 6 = .ok (.putfield 9, 3) := by decide +kernel
theorem dX6_init_9 : decode cX6_init 9 = .ok (.aload_n 0, 1) := by decide +kernel
theorem dX6_init_10 : decode cX6_init 10 = .ok (.bipush 8, 2) := by decide +kernel
theorem dX6_init_12 : decode cX6_init 12 = .ok (.newarray .int, 2) := by decide +kernel
theorem dX6_init_14 : decode cX6_init 14 = .ok (.putfield 15, 3) := by decide +kernel
theorem dX6_init_17 : decode cX6_init 17 = .ok (.aload_n 0, 1) := by decide +kernel
theorem dX6_init_18 : decode cX6_init 18 = .ok (.bipush 16, 2) := by decide +kernel
theorem dX6_init_20 : decode cX6_init 20 = .ok (.newarray .int, 2) := by decide +kernel
theorem dX6_init_22 : decode cX6_init 22 = .ok (.putfield 19, 3) := by decide +kernel
theorem dX6_init_25 : decode cX6_init 25 = .ok (.aload_n 0, 1) := by decide +kernel
theorem dX6_init_26 : decode cX6_init 26 = .ok (.bipush 8, 2) := by decide +kernel
theorem dX6_init_28 : decode cX6_init 28 = .ok (.newarray .int, 2) := by decide +kernel
theorem dX6_init_30 : decode cX6_init 30 = .ok (.putfield 22, 3) := by decide +kernel
theorem dX6_init_33 : decode cX6_init 33 = .ok (.aload_n 0, 1) := by decide +kernel
theorem dX6_init_34 : decode cX6_init 34 = .ok (.bipush 32, 2) := by decide +kernel
theorem dX6_init_36 : decode cX6_init 36 = .ok (.newarray .int, 2) := by decide +kernel
theorem dX6_init_38 : decode cX6_init 38 = .ok (.putfield 25, 3) := by decide +kernel
theorem dX6_init_41 : decode cX6_init 41 = .ok (.return_, 1) := by decide +kernel
theorem dX6_copyFrom_0 : decode cX6_copyFrom 0 = .ok (.aload_n 0, 1) := by decide +kernel
theorem dX6_copyFrom_1 : decode cX6_copyFrom 1 = .ok (.aload_n 1, 1) := by decide +kernel
theorem dX6_copyFrom_2 : decode cX6_copyFrom 2 = .ok (.getfield 9, 3) := by decide +kernel
theorem dX6_copyFrom_5 : decode cX6_copyFrom 5 = .ok (.putfield 9, 3) := by decide +kernel
theorem dX6_copyFrom_8 : decode cX6_copyFrom 8 = .ok (.aload_n 1, 1) := by decide +kernel
theorem dX6_copyFrom_9 : decode cX6_copyFrom 9 = .ok (.getfield 15, 3) := by decide +kernel
theorem dX6_copyFrom_12 : decode cX6_copyFrom 12 = .ok (.aload_n 0, 1) := by decide +kernel
theorem dX6_copyFrom_13 : decode cX6_copyFrom 13 = .ok (.getfield 15, 3) := by decide +kernel
theorem dX6_copyFrom_16 : decode cX6_copyFrom 16 = .ok (.invokestatic 28, 3) := by decide +kernel
theorem dX6_copyFrom_19 : decode cX6_copyFrom 19 = .ok (.aload_n 1, 1) := by decide +kernel
theorem dX6_copyFrom_20 : decode cX6_copyFrom 20 = .ok (.getfield 19, 3) := by decide +kernel
theorem dX6_copyFrom_23 : decode cX6_copyFrom 23 = .ok (.aload_n 0, 1) := by decide +kernel
theorem dX6_copyFrom_24 : decode cX6_copyFrom 24 = .ok (.getfield 19, 3) := by decide +kernel
theorem dX6_copyFrom_27 : decode cX6_copyFrom 27 = .ok (.invokestatic 28, 3) := by decide +kernel
theorem dX6_copyFrom_30 : decode cX6_copyFrom 30 = .ok (.aload_n 1, 1) := by decide +kernel
theorem dX6_copyFrom_31 : decode cX6_copyFrom 31 = .ok (.getfield 22, 3) := by decide +kernel
theorem dX6_copyFrom_34 : decode cX6_copyFrom 34 = .ok (.aload_n 0, 1) := by decide +kernel
theorem dX6_copyFrom_35 : decode cX6_copyFrom 35 = .ok (.getfield 22, 3) := by decide +kernel
theorem dX6_copyFrom_38 : decode cX6_copyFrom 38 = .ok (.invokestatic 28, 3) := by decide +kernel
theorem dX6_copyFrom_41 : decode cX6_copyFrom 41 = .ok (.aload_n 1, 1) := by decide +kernel
theorem dX6_copyFrom_42 : decode cX6_copyFrom 42 = .ok (.getfield 25, 3) := by decide +kernel
theorem dX6_copyFrom_45 : decode cX6_copyFrom 45 = .ok (.aload_n 0, 1) := by decide +kernel
theorem dX6_copyFrom_46 : decode cX6_copyFrom 46 = .ok (.getfield 25, 3) := by decide +kernel
theorem dX6_copyFrom_49 : decode cX6_copyFrom 49 = .ok (.invokestatic 28, 3) := by decide +kernel
theorem dX6_copyFrom_52 : decode cX6_copyFrom 52 = .ok (.return_, 1) := by decide +kernel
theorem dX6_add_0 : decode cX6_add 0 = .ok (.aload_n 0, 1) := by decide +kernel
theorem dX6_add_1 : decode cX6_add 1 = .ok (.getfield 9, 3) := by decide +kernel
theorem dX6_add_4 : decode cX6_add 4 = .ok (.istore_n 2, 1) := by decide +kernel
theorem dX6_add_5 : decode cX6_add 5 = .ok (.iload_n 2, 1) := by decide +kernel
theorem dX6_add_6 : decode cX6_add 6 = .ok (.bipush 8, 2) := by decide +kernel
theorem dX6_add_8 : decode cX6_add 8 = .ok (.if_icmp .lt 4, 3) := by decide +kernel
theorem dX6_add_11 : decode cX6_add 11 = .ok (.return_, 1) := by decide +kernel
theorem dX6_add_12 : decode cX6_add 12 = .ok (.aload_n 0, 1) := by decide +kernel
theorem dX6_add_13 : decode cX6_add 13 = .ok (.dup, 1) := by decide +kernel
theorem dX6_add_14 : decode cX6_add 14 = .ok (.getfield 9, 3) := by decide +kernel
theorem dX6_add_17 : decode cX6_add 17 = .ok (.iconst 1, 1) := by decide +kernel
theorem dX6_add_18 : decode cX6_add 18 = .ok (.iadd, 1) := by decide +kernel
theorem dX6_add_19 : decode cX6_add 19 = .ok (.putfield 9, 3) := by decide +kernel
theorem dX6_add_22 : decode cX6_add 22 = .ok (.aload_n 0, 1) := by decide +kernel
theorem dX6_add_23 : decode cX6_add 23 = .ok (.getfield 15, 3) := by decide +kernel
theorem dX6_add_26 : decode cX6_add 26 = .ok (.iload_n 2, 1) := by decide +kernel
theorem dX6_add_27 : decode cX6_add 27 = .ok (.aload_n 1, 1) := by decide +kernel
theorem dX6_add_28 : decode cX6_add 28 = .ok (.getfield 34, 3) := by decide +kernel
theorem dX6_add_31 : decode cX6_add 31 = .ok (.invokestatic 39, 3) := by decide +kernel
theorem dX6_add_34 : decode cX6_add 34 = .ok (.aload_n 0, 1) := by decide +kernel
theorem dX6_add_35 : decode cX6_add 35 = .ok (.getfield 22, 3) := by decide +kernel
theorem dX6_add_38 : decode cX6_add 38 = .ok (.iload_n 2, 1) := by decide +kernel
theorem dX6_add_39 : decode cX6_add 39 = .ok (.aload_n 1, 1) := by decide +kernel
theorem dX6_add_40 : decode cX6_add 40 = .ok (.getfield 43, 3) := by decide +kernel
theorem dX6_add_43 : decode cX6_add 43 = .ok (.iconst 4, 1) := by decide +kernel
theorem dX6_add_44 : decode cX6_add 44 = .ok (.invokestatic 46, 3) := by decide +kernel
theorem dX6_add_47 : decode cX6_add 47 = .ok (.invokestatic 39, 3) := by decide +kernel
theorem dX6_add_50 : decode cX6_add 50 = .ok (.iconst 0, 1) := by decide +kernel
theorem dX6_add_51 : decode cX6_add 51 = .ok (.istore_n 3, 1) := by decide +kernel
theorem dX6_add_52 : decode cX6_add 52 = .ok (.iload_n 3, 1) := by decide +kernel
theorem dX6_add_53 : decode cX6_add 53 = .ok (.iconst 2, 1) := by decide +kernel
theorem dX6_add_54 : decode cX6_add 54 = .ok (.if_icmp .ge 38, 3) := by decide +kernel
theorem dX6_add_57 : decode cX6_add 57 = .ok (.aload_n 0, 1) := by decide +kernel
theorem dX6_add_58 : decode cX6_add 58 = .ok (.getfield 19, 3) := by decide +kernel
theorem dX6_add_61 : decode cX6_add 61 = .ok (.iload_n 2, 1) := by decide +kernel
theorem dX6_add_62 : decode cX6_add 62 = .ok (.iconst 2, 1) := by decide +kernel
theorem dX6_add_63 : decode cX6_add 63 = .ok (.imul, 1) := by decide +kernel
theorem dX6_add_64 : decode cX6_add 64 = .ok (.iload_n 3, 1) := by decide +kernel
theorem dX6_add_65 : decode cX6_add 65 = .ok (.iadd, 1) := by decide +kernel
theorem dX6_add_66 : decode cX6_add 66 = .ok (.iload_n 3, 1) := by decide +kernel
theorem dX6_add_67 : decode cX6_add 67 = .ok (.aload_n 1, 1) := by decide +kernel
theorem dX6_add_68 : decode cX6_add 68 = .ok (.getfield 52, 3) := by decide +kernel
theorem dX6_add_71 : decode cX6_add 71 = .ok (.if_icmp .ge 11, 3) := by decide +kernel
theorem dX6_add_74 : decode cX6_add 74 = .ok (.aload_n 1, 1) := by decide +kernel
theorem dX6_add_75 : decode cX6_add 75 = .ok (.iload_n 3, 1) := by decide +kernel
theorem dX6_add_76 : decode cX6_add 76 = .ok (.invokevirtual 55, 3) := by decide +kernel
theorem dX6_add_79 : decode cX6_add 79 = .ok (.goto 4, 3) := by decide +kernel
theorem dX6_add_82 : decode cX6_add 82 = .ok (.iconst (-1), 1) := by decide +kernel
theorem dX6_add_83 : decode cX6_add 83 = .ok (.invokestatic 39, 3) := by decide +kernel
theorem dX6_add_86 : decode cX6_add 86 = .ok (.iinc 3 1, 3) := by decide +kernel
theorem dX6_add_89 : decode cX6_add 89 = .ok (.goto (-37), 3) := by decide +kernel
theorem dX6_add_92 : decode cX6_add 92 = .ok (.iconst 0, 1) := by decide +kernel
theorem dX6_add_93 : decode cX6_add 93 = .ok (.istore_n 3, 1) := by decide +kernel
theorem dX6_add_94 : decode cX6_add 94 = .ok (.iload_n 3, 1) := by decide +kernel
theorem dX6_add_95 : decode cX6_add 95 = .ok (.iconst 4, 1) := by decide +kernel
theorem dX6_add_96 : decode cX6_add 96 = .ok (.if_icmp .ge 29, 3) := by decide +kernel
theorem dX6_add_99 : decode cX6_add 99 = .ok (.aload_n 0, 1) := by decide +kernel
theorem dX6_add_100 : decode cX6_add 100 = .ok (.getfield 25, 3) := by decide +kernel
theorem dX6_add_103 : decode cX6_add 103 = .ok (.iload_n 2, 1) := by decide +kernel
theorem dX6_add_104 : decode cX6_add 104 = .ok (.iconst 4, 1) := by decide +kernel
theorem dX6_add_105 : decode cX6_add 105 = .ok (.imul, 1) := by decide +kernel
theorem dX6_add_106 : decode cX6_add 106 = .ok (.iload_n 3, 1) := by decide +kernel
theorem dX6_add_107 : decode cX6_add 107 = .ok (.iadd, 1) := by decide +kernel
theorem dX6_add_108 : decode cX6_add 108 = .ok (.aload_n 1, 1) := by decide +kernel
theorem dX6_add_109 : decode cX6_add 109 = .ok (.getfield 59, 3) := by decide +kernel
theorem dX6_add_112 : decode cX6_add 112 = .ok (.iload_n 3, 1) := by decide +kernel
theorem dX6_add_113 : decode cX6_add 113 = .ok (.invokestatic 60, 3) := by decide +kernel
theorem dX6_add_116 : decode cX6_add 116 = .ok (.invokestatic 39, 3) := by decide +kernel
theorem dX6_add_119 : decode cX6_add 119 = .ok (.iinc 3 1, 3) := by decide +kernel
theorem dX6_add_122 : decode cX6_add 122 = .ok (.goto (-28), 3) := by decide +kernel
theorem dX6_add_125 : decode cX6_add 125 = .ok (.aload_n 1, 1) := by decide +kernel
theorem dX6_add_126 : decode cX6_add 126 = .ok (.getfield 34, 3) := by decide +kernel
theorem dX6_add_129 : decode cX6_add 129 = .ok (.ifCond .ne 18, 3) := by decide +kernel
theorem dX6_add_132 : decode cX6_add 132 = .ok (.aload_n 0, 1) := by decide +kernel
theorem dX6_add_133 : decode cX6_add 133 = .ok (.getfield 19, 3) := by decide +kernel
theorem dX6_add_136 : decode cX6_add 136 = .ok (.iload_n 2, 1) := by decide +kernel
theorem dX6_add_137 : decode cX6_add 137 = .ok (.iconst 2, 1) := by decide +kernel
theorem dX6_add_138 : decode cX6_add 138 = .ok (.imul, 1) := by decide +kernel
theorem dX6_add_139 : decode cX6_add 139 = .ok (.aload_n 0, 1) := by decide +kernel
theorem dX6_add_140 : decode cX6_add 140 = .ok (.iload_n 2, 1) := by decide +kernel
theorem dX6_add_141 : decode cX6_add 141 = .ok (.invokevirtual 64, 3) := by decide +kernel
theorem dX6_add_144 : decode cX6_add 144 = .ok (.invokestatic 39, 3) := by decide +kernel
theorem dX6_add_147 : decode cX6_add 147 = .ok (.return_, 1) := by decide +kernel
theorem dX6_has_0 : decode cX6_has 0 = .ok (.iload_n 1, 1) := by decide +kernel
theorem dX6_has_1 : decode cX6_has 1 = .ok (.ifCond .lt 15, 3) := by decide +kernel
theorem dX6_has_4 : decode cX6_has 4 = .ok (.iload_n 1, 1) := by decide +kernel
theorem dX6_has_5 : decode cX6_has 5 = .ok (.aload_n 0, 1) := by decide +kernel
theorem dX6_has_6 : decode cX6_has 6 = .ok (.getfield 9, 3) := by decide +kernel
theorem dX6_has_9 : decode cX6_has 9 = .ok (.if_icmp .ge 7, 3) := by decide +kernel
theorem dX6_has_12 : decode cX6_has 12 = .ok (.iconst 1, 1) := by decide +kernel
theorem dX6_has_13 : decode cX6_has 13 = .ok (.goto 4, 3) := by decide +kernel
theorem dX6_has_16 : decode cX6_has 16 = .ok (.iconst 0, 1) := by decide +kernel
theorem dX6_has_17 : decode cX6_has 17 = .ok (.ireturn, 1) := by decide +kernel
theorem dX6_kindOf_0 : decode cX6_kindOf 0 = .ok (.aload_n 0, 1) := by decide +kernel
theorem dX6_kindOf_1 : decode cX6_kindOf 1 = .ok (.getfield 15, 3) := by decide +kernel
theorem dX6_kindOf_4 : decode cX6_kindOf 4 = .ok (.iload_n 1, 1) := by decide +kernel
theorem dX6_kindOf_5 : decode cX6_kindOf 5 = .ok (.invokestatic 60, 3) := by decide +kernel
theorem dX6_kindOf_8 : decode cX6_kindOf 8 = .ok (.ireturn, 1) := by decide +kernel
theorem dX6_numberOf_0 : decode cX6_numberOf 0 = .ok (.aload_n 0, 1) := by decide +kernel
theorem dX6_numberOf_1 : decode cX6_numberOf 1 = .ok (.getfield 19, 3) := by decide +kernel
theorem dX6_numberOf_4 : decode cX6_numberOf 4 = .ok (.iload_n 1, 1) := by decide +kernel
theorem dX6_numberOf_5 : decode cX6_numberOf 5 = .ok (.iconst 2, 1) := by decide +kernel
theorem dX6_numberOf_6 : decode cX6_numberOf 6 = .ok (.imul, 1) := by decide +kernel
theorem dX6_numberOf_7 : decode cX6_numberOf 7 = .ok (.iload_n 2, 1) := by decide +kernel
theorem dX6_numberOf_8 : decode cX6_numberOf 8 = .ok (.iadd, 1) := by decide +kernel
theorem dX6_numberOf_9 : decode cX6_numberOf 9 = .ok (.invokestatic 60, 3) := by decide +kernel
theorem dX6_numberOf_12 : decode cX6_numberOf 12 = .ok (.ireturn, 1) := by decide +kernel
theorem dX6_wordsOf_0 : decode cX6_wordsOf 0 = .ok (.aload_n 0, 1) := by decide +kernel
theorem dX6_wordsOf_1 : decode cX6_wordsOf 1 = .ok (.getfield 22, 3) := by decide +kernel
theorem dX6_wordsOf_4 : decode cX6_wordsOf 4 = .ok (.iload_n 1, 1) := by decide +kernel
theorem dX6_wordsOf_5 : decode cX6_wordsOf 5 = .ok (.invokestatic 60, 3) := by decide +kernel
theorem dX6_wordsOf_8 : decode cX6_wordsOf 8 = .ok (.ireturn, 1) := by decide +kernel
theorem dX6_wordOf_0 : decode cX6_wordOf 0 = .ok (.aload_n 0, 1) := by decide +kernel
theorem dX6_wordOf_1 : decode cX6_wordOf 1 = .ok (.getfield 25, 3) := by decide +kernel
theorem dX6_wordOf_4 : decode cX6_wordOf 4 = .ok (.iload_n 1, 1) := by decide +kernel
theorem dX6_wordOf_5 : decode cX6_wordOf 5 = .ok (.iconst 4, 1) := by decide +kernel
theorem dX6_wordOf_6 : decode cX6_wordOf 6 = .ok (.imul, 1) := by decide +kernel
theorem dX6_wordOf_7 : decode cX6_wordOf 7 = .ok (.iload_n 2, 1) := by decide +kernel
theorem dX6_wordOf_8 : decode cX6_wordOf 8 = .ok (.iadd, 1) := by decide +kernel
theorem dX6_wordOf_9 : decode cX6_wordOf 9 = .ok (.invokestatic 60, 3) := by decide +kernel
theorem dX6_wordOf_12 : decode cX6_wordOf 12 = .ok (.ireturn, 1) := by decide +kernel
theorem dX7_init_0 : decode cX7_init 0 = .ok (.aload_n 0, 1) := by decide +kernel
theorem dX7_init_1 : decode cX7_init 1 = .ok (.invokespecial 3, 3) := by decide +kernel
theorem dX7_init_4 : decode cX7_init 4 = .ok (.aload_n 0, 1) := by decide +kernel
theorem dX7_init_5 : decode cX7_init 5 = .ok (.new 9, 3) := by decide +kernel
theorem dX7_init_8 : decode cX7_init 8 = .ok (.dup, 1) := by decide +kernel
theorem dX7_init_9 : decode cX7_init 9 = .ok (.invokespecial 11, 3) := by decide +kernel
theorem dX7_init_12 : decode cX7_init 12 = .ok (.putfield 12, 3) := by decide +kernel
theorem dX7_init_15 : decode cX7_init 15 = .ok (.aload_n 0, 1) := by decide +kernel
theorem dX7_init_16 : decode cX7_init 16 = .ok (.new 18, 3) := by decide +kernel
theorem dX7_init_19 : decode cX7_init 19 = .ok (.dup, 1) := by decide +kernel
theorem dX7_init_20 : decode cX7_init 20 = .ok (.invokespecial 20, 3) := by decide +kernel
theorem dX7_init_23 : decode cX7_init 23 = .ok (.putfield 21, 3) := by decide +kernel
theorem dX7_init_26 : decode cX7_init 26 = .ok (.aload_n 0, 1) := by decide +kernel
theorem dX7_init_27 : decode cX7_init 27 = .ok (.new 25, 3) := by decide +kernel
theorem dX7_init_30 : decode cX7_init 30 = .ok (.dup, 1) := by decide +kernel
theorem dX7_init_31 : decode cX7_init 31 = .ok (.invokespecial 27, 3) := by decide +kernel
theorem dX7_init_34 : decode cX7_init 34 = .ok (.putfield 28, 3) := by decide +kernel
theorem dX7_init_37 : decode cX7_init 37 = .ok (.aload_n 0, 1) := by decide +kernel
theorem dX7_init_38 : decode cX7_init 38 = .ok (.new 32, 3) := by decide +kernel
theorem dX7_init_41 : decode cX7_init 41 = .ok (.dup, 1) := by decide +kernel
theorem dX7_init_42 : decode cX7_init 42 = .ok (.invokespecial 34, 3) := by decide +kernel
theorem dX7_init_45 : decode cX7_init 45 = .ok (.putfield 35, 3) := by decide +kernel
theorem dX7_init_48 : decode cX7_init 48 = .ok (.aload_n 0, 1) := by decide +kernel
theorem dX7_init_49 : decode cX7_init 49 = .ok (.iconst 0, 1) := by decide +kernel
theorem dX7_init_50 : decode cX7_init 50 = .ok (.putfield 39, 3) := by decide +kernel
theorem dX7_init_53 : decode cX7_init 53 = .ok (.aload_n 0, 1) := by decide +kernel
theorem dX7_init_54 : decode cX7_init 54 = .ok (.iconst (-1), 1) := by decide +kernel
theorem dX7_init_55 : decode cX7_init 55 = .ok (.putfield 43, 3) := by decide +kernel
theorem dX7_init_58 : decode cX7_init 58 = .ok (.return_, 1) := by decide +kernel
theorem dX7_take_0 : decode cX7_take 0 = .ok (.aload_n 0, 1) := by decide +kernel
theorem dX7_take_1 : decode cX7_take 1 = .ok (.iconst 0, 1) := by decide +kernel
theorem dX7_take_2 : decode cX7_take 2 = .ok (.putfield 39, 3) := by decide +kernel
theorem dX7_take_5 : decode cX7_take 5 = .ok (.aload_n 0, 1) := by decide +kernel
theorem dX7_take_6 : decode cX7_take 6 = .ok (.iconst (-1), 1) := by decide +kernel
theorem dX7_take_7 : decode cX7_take 7 = .ok (.putfield 43, 3) := by decide +kernel
theorem dX7_take_10 : decode cX7_take 10 = .ok (.aload_n 0, 1) := by decide +kernel
theorem dX7_take_11 : decode cX7_take 11 = .ok (.getfield 21, 3) := by decide +kernel
theorem dX7_take_14 : decode cX7_take 14 = .ok (.invokevirtual 46, 3) := by decide +kernel
theorem dX7_take_17 : decode cX7_take 17 = .ok (.aload_n 0, 1) := by decide +kernel
theorem dX7_take_18 : decode cX7_take 18 = .ok (.getfield 28, 3) := by decide +kernel
theorem dX7_take_21 : decode cX7_take 21 = .ok (.iconst 0, 1) := by decide +kernel
theorem dX7_take_22 : decode cX7_take 22 = .ok (.putfield 49, 3) := by decide +kernel
theorem dX7_take_25 : decode cX7_take 25 = .ok (.aload_n 0, 1) := by decide +kernel
theorem dX7_take_26 : decode cX7_take 26 = .ok (.getfield 35, 3) := by decide +kernel
theorem dX7_take_29 : decode cX7_take 29 = .ok (.iconst 0, 1) := by decide +kernel
theorem dX7_take_30 : decode cX7_take 30 = .ok (.putfield 52, 3) := by decide +kernel
theorem dX7_take_33 : decode cX7_take 33 = .ok (.aload_n 0, 1) := by decide +kernel
theorem dX7_take_34 : decode cX7_take 34 = .ok (.aload_n 1, 1) := by decide +kernel
theorem dX7_take_35 : decode cX7_take 35 = .ok (.iload_n 2, 1) := by decide +kernel
theorem dX7_take_36 : decode cX7_take 36 = .ok (.invokevirtual 53, 3) := by decide +kernel
theorem dX7_take_39 : decode cX7_take 39 = .ok (.aload_n 1, 1) := by decide +kernel
theorem dX7_take_40 : decode cX7_take 40 = .ok (.invokevirtual 57, 3) := by decide +kernel
theorem dX7_take_43 : decode cX7_take 43 = .ok (.iconst 0, 1) := by decide +kernel
theorem dX7_take_44 : decode cX7_take 44 = .ok (.istore_n 3, 1) := by decide +kernel
theorem dX7_take_45 : decode cX7_take 45 = .ok (.iload_n 3, 1) := by decide +kernel
theorem dX7_take_46 : decode cX7_take 46 = .ok (.sipush 600, 3) := by decide +kernel
theorem dX7_take_49 : decode cX7_take 49 = .ok (.if_icmp .ge 64, 3) := by decide +kernel
theorem dX7_take_52 : decode cX7_take 52 = .ok (.aload_n 0, 1) := by decide +kernel
theorem dX7_take_53 : decode cX7_take 53 = .ok (.getfield 39, 3) := by decide +kernel
theorem dX7_take_56 : decode cX7_take 56 = .ok (.ifCond .ne 57, 3) := by decide +kernel
theorem dX7_take_59 : decode cX7_take 59 = .ok (.aload_n 0, 1) := by decide +kernel
theorem dX7_take_60 : decode cX7_take 60 = .ok (.getfield 12, 3) := by decide +kernel
theorem dX7_take_63 : decode cX7_take 63 = .ok (.aload_n 1, 1) := by decide +kernel
theorem dX7_take_64 : decode cX7_take 64 = .ok (.iload_n 2, 1) := by decide +kernel
theorem dX7_take_65 : decode cX7_take 65 = .ok (.invokevirtual 62, 3) := by decide +kernel
theorem dX7_take_68 : decode cX7_take 68 = .ok (.iconst 2, 1) := by decide +kernel
theorem dX7_take_69 : decode cX7_take 69 = .ok (.if_icmp .eq 6, 3) := by decide +kernel
theorem dX7_take_72 : decode cX7_take 72 = .ok (.goto 41, 3) := by decide +kernel
theorem dX7_take_75 : decode cX7_take 75 = .ok (.aload_n 0, 1) := by decide +kernel
theorem dX7_take_76 : decode cX7_take 76 = .ok (.invokevirtual 66, 3) := by decide +kernel
theorem dX7_take_79 : decode cX7_take 79 = .ok (.iload_n 2, 1) := by decide +kernel
theorem dX7_take_80 : decode cX7_take 80 = .ok (.ifCond .ne 11, 3) := by decide +kernel
theorem dX7_take_83 : decode cX7_take 83 = .ok (.aload_n 0, 1) := by decide +kernel
theorem dX7_take_84 : decode cX7_take 84 = .ok (.iload_n 3, 1) := by decide +kernel
theorem dX7_take_85 : decode cX7_take 85 = .ok (.invokevirtual 69, 3) := by decide +kernel
theorem dX7_take_88 : decode cX7_take 88 = .ok (.goto 19, 3) := by decide +kernel
theorem dX7_take_91 : decode cX7_take 91 = .ok (.iload_n 2, 1) := by decide +kernel
theorem dX7_take_92 : decode cX7_take 92 = .ok (.iconst 1, 1) := by decide +kernel
theorem dX7_take_93 : decode cX7_take 93 = .ok (.if_icmp .ne 10, 3) := by decide +kernel
theorem dX7_take_96 : decode cX7_take 96 = .ok (.aload_n 0, 1) := by decide +kernel
theorem dX7_take_97 : decode cX7_take 97 = .ok (.invokevirtual 75, 3) := by decide +kernel
theorem dX7_take_100 : decode cX7_take 100 = .ok (.goto 7, 3) := by decide +kernel
theorem dX7_take_103 : decode cX7_take 103 = .ok (.aload_n 0, 1) := by decide +kernel
theorem dX7_take_104 : decode cX7_take 104 = .ok (.invokevirtual 78, 3) := by decide +kernel
theorem dX7_take_107 : decode cX7_take 107 = .ok (.iinc 3 1, 3) := by decide +kernel
theorem dX7_take_110 : decode cX7_take 110 = .ok (.goto (-65), 3) := by decide +kernel
theorem dX7_take_113 : decode cX7_take 113 = .ok (.aload_n 0, 1) := by decide +kernel
theorem dX7_take_114 : decode cX7_take 114 = .ok (.getfield 21, 3) := by decide +kernel
theorem dX7_take_117 : decode cX7_take 117 = .ok (.invokevirtual 81, 3) := by decide +kernel
theorem dX7_take_120 : decode cX7_take 120 = .ok (.return_, 1) := by decide +kernel
theorem dX7_noteNoText_0 : decode cX7_noteNoText 0 = .ok (.aload_n 1, 1) := by decide +kernel
theorem dX7_noteNoText_1 : decode cX7_noteNoText 1 = .ok (.invokevirtual 57, 3) := by decide +kernel
theorem dX7_noteNoText_4 : decode cX7_noteNoText 4 = .ok (.iconst 2, 1) := by decide +kernel
theorem dX7_noteNoText_5 : decode cX7_noteNoText 5 = .ok (.istore_n 3, 1) := by decide +kernel
theorem dX7_noteNoText_6 : decode cX7_noteNoText 6 = .ok (.iconst 0, 1) := by decide +kernel
theorem dX7_noteNoText_7 : decode cX7_noteNoText 7 = .ok (.istore 4, 2) := by decide +kernel
theorem dX7_noteNoText_9 : decode cX7_noteNoText 9 = .ok (.iload 4, 2) := by decide +kernel
theorem dX7_noteNoText_11 : decode cX7_noteNoText 11 = .ok (.sipush 600, 3) := by decide +kernel
theorem dX7_noteNoText_14 : decode cX7_noteNoText 14 = .ok (.if_icmp .gt 24, 3) := by decide +kernel
theorem dX7_noteNoText_17 : decode cX7_noteNoText 17 = .ok (.iload_n 3, 1) := by decide +kernel
theorem dX7_noteNoText_18 : decode cX7_noteNoText 18 = .ok (.iconst 2, 1) := by decide +kernel
theorem dX7_noteNoText_19 : decode cX7_noteNoText 19 = .ok (.if_icmp .ne 19, 3) := by decide +kernel
theorem dX7_noteNoText_22 : decode cX7_noteNoText 22 = .ok (.aload_n 0, 1) := by decide +kernel
theorem dX7_noteNoText_23 : decode cX7_noteNoText 23 = .ok (.getfield 12, 3) := by decide +kernel
theorem dX7_noteNoText_26 : decode cX7_noteNoText 26 = .ok (.aload_n 1, 1) := by decide +kernel
theorem dX7_noteNoText_27 : decode cX7_noteNoText 27 = .ok (.iload_n 2, 1) := by decide +kernel
theorem dX7_noteNoText_28 : decode cX7_noteNoText 28 = .ok (.invokevirtual 62, 3) := by decide +kernel
theorem dX7_noteNoText_31 : decode cX7_noteNoText 31 = .ok (.istore_n 3, 1) := by decide +kernel
theorem dX7_noteNoText_32 : decode cX7_noteNoText 32 = .ok (.iinc 4 1, 3) := by decide +kernel
theorem dX7_noteNoText_35 : decode cX7_noteNoText 35 = .ok (.goto (-26), 3) := by decide +kernel
theorem dX7_noteNoText_38 : decode cX7_noteNoText 38 = .ok (.iload_n 3, 1) := by decide +kernel
theorem dX7_noteNoText_39 : decode cX7_noteNoText 39 = .ok (.iconst 1, 1) := by decide +kernel
theorem dX7_noteNoText_40 : decode cX7_noteNoText 40 = .ok (.if_icmp .ne 12, 3) := by decide +kernel
theorem dX7_noteNoText_43 : decode cX7_noteNoText 43 = .ok (.aload_n 0, 1) := by decide +kernel
theorem dX7_noteNoText_44 : decode cX7_noteNoText 44 = .ok (.iconst 1, 1) := by decide +kernel
theorem dX7_noteNoText_45 : decode cX7_noteNoText 45 = .ok (.aload_n 1, 1) := by decide +kernel
theorem dX7_noteNoText_46 : decode cX7_noteNoText 46 = .ok (.getfield 84, 3) := by decide +kernel
theorem dX7_noteNoText_49 : decode cX7_noteNoText 49 = .ok (.invokevirtual 87, 3) := by decide +kernel
theorem dX7_noteNoText_52 : decode cX7_noteNoText 52 = .ok (.return_, 1) := by decide +kernel
theorem dX7_note_0 : decode cX7_note 0 = .ok (.aload_n 0, 1) := by decide +kernel
theorem dX7_note_1 : decode cX7_note 1 = .ok (.getfield 39, 3) := by decide +kernel
theorem dX7_note_4 : decode cX7_note 4 = .ok (.ifCond .eq 27, 3) := by decide +kernel
theorem dX7_note_7 : decode cX7_note 7 = .ok (.iload_n 2, 1) := by decide +kernel
theorem dX7_note_8 : decode cX7_note 8 = .ok (.aload_n 0, 1) := by decide +kernel
theorem dX7_note_9 : decode cX7_note 9 = .ok (.getfield 43, 3) := by decide +kernel
theorem dX7_note_12 : decode cX7_note 12 = .ok (.if_icmp .lt 19, 3) := by decide +kernel
theorem dX7_note_15 : decode cX7_note 15 = .ok (.iload_n 2, 1) := by decide +kernel
theorem dX7_note_16 : decode cX7_note 16 = .ok (.aload_n 0, 1) := by decide +kernel
theorem dX7_note_17 : decode cX7_note 17 = .ok (.getfield 43, 3) := by decide +kernel
theorem dX7_note_20 : decode cX7_note 20 = .ok (.if_icmp .ne 21, 3) := by decide +kernel
theorem dX7_note_23 : decode cX7_note 23 = .ok (.iload_n 1, 1) := by decide +kernel
theorem dX7_note_24 : decode cX7_note 24 = .ok (.aload_n 0, 1) := by decide +kernel
theorem dX7_note_25 : decode cX7_note 25 = .ok (.getfield 39, 3) := by decide +kernel
theorem dX7_note_28 : decode cX7_note 28 = .ok (.if_icmp .ge 13, 3) := by decide +kernel
theorem dX7_note_31 : decode cX7_note 31 = .ok (.aload_n 0, 1) := by decide +kernel
theorem dX7_note_32 : decode cX7_note 32 = .ok (.iload_n 1, 1) := by decide +kernel
theorem dX7_note_33 : decode cX7_note 33 = .ok (.putfield 39, 3) := by decide +kernel
theorem dX7_note_36 : decode cX7_note 36 = .ok (.aload_n 0, 1) := by decide +kernel
theorem dX7_note_37 : decode cX7_note 37 = .ok (.iload_n 2, 1) := by decide +kernel
theorem dX7_note_38 : decode cX7_note 38 = .ok (.putfield 43, 3) := by decide +kernel
theorem dX7_note_41 : decode cX7_note 41 = .ok (.return_, 1) := by decide +kernel
theorem dX7_noteWhatCanNotBe_0 : decode cX7_noteWhatCanNotBe 0 = .ok (.iconst 0, 1) := by decide +kernel
theorem dX7_noteWhatCanNotBe_1 : decode cX7_noteWhatCanNotBe 1 = .ok (.istore_n 1, 1) := by decide +kernel
theorem dX7_noteWhatCanNotBe_2 : decode cX7_noteWhatCanNotBe 2 = .ok (.iload_n 1, 1) := by decide +kernel
theorem dX7_noteWhatCanNotBe_3 : decode cX7_noteWhatCanNotBe 3 = .ok (.aload_n 0, 1) := by decide +kernel
theorem dX7_noteWhatCanNotBe_4 : decode cX7_noteWhatCanNotBe 4 = .ok (.getfield 12, 3) := by decide +kernel
theorem dX7_noteWhatCanNotBe_7 : decode cX7_noteWhatCanNotBe 7 = .ok (.getfield 91, 3) := by decide +kernel
theorem dX7_noteWhatCanNotBe_10 : decode cX7_noteWhatCanNotBe 10 = .ok (.if_icmp .ge 57, 3) := by decide +kernel
theorem dX7_noteWhatCanNotBe_13 : decode cX7_noteWhatCanNotBe 13 = .ok (.aload_n 0, 1) := by decide +kernel
theorem dX7_noteWhatCanNotBe_14 : decode cX7_noteWhatCanNotBe 14 = .ok (.getfield 12, 3) := by decide +kernel
theorem dX7_noteWhatCanNotBe_17 : decode cX7_noteWhatCanNotBe 17 = .ok (.iload_n 1, 1) := by decide +kernel
theorem dX7_noteWhatCanNotBe_18 : decode cX7_noteWhatCanNotBe 18 = .ok (.invokevirtual 94, 3) := by decide +kernel
theorem dX7_noteWhatCanNotBe_21 : decode cX7_noteWhatCanNotBe 21 = .ok (.aload_n 0, 1) := by decide +kernel
theorem dX7_noteWhatCanNotBe_22 : decode cX7_noteWhatCanNotBe 22 = .ok (.iload_n 1, 1) := by decide +kernel
theorem dX7_noteWhatCanNotBe_23 : decode cX7_noteWhatCanNotBe 23 = .ok (.invokevirtual 98, 3) := by decide +kernel
theorem dX7_noteWhatCanNotBe_26 : decode cX7_noteWhatCanNotBe 26 = .ok (.if_icmp .lt 19, 3) := by decide +kernel
theorem dX7_noteWhatCanNotBe_29 : decode cX7_noteWhatCanNotBe 29 = .ok (.aload_n 0, 1) := by decide +kernel
theorem dX7_noteWhatCanNotBe_30 : decode cX7_noteWhatCanNotBe 30 = .ok (.getfield 12, 3) := by decide +kernel
theorem dX7_noteWhatCanNotBe_33 : decode cX7_noteWhatCanNotBe 33 = .ok (.iload_n 1, 1) := by decide +kernel
theorem dX7_noteWhatCanNotBe_34 : decode cX7_noteWhatCanNotBe 34 = .ok (.invokevirtual 94, 3) := by decide +kernel
theorem dX7_noteWhatCanNotBe_37 : decode cX7_noteWhatCanNotBe 37 = .ok (.aload_n 0, 1) := by decide +kernel
theorem dX7_noteWhatCanNotBe_38 : decode cX7_noteWhatCanNotBe 38 = .ok (.iload_n 1, 1) := by decide +kernel
theorem dX7_noteWhatCanNotBe_39 : decode cX7_noteWhatCanNotBe 39 = .ok (.invokevirtual 101, 3) := by decide +kernel
theorem dX7_noteWhatCanNotBe_42 : decode cX7_noteWhatCanNotBe 42 = .ok (.if_icmp .le 19, 3) := by decide +kernel
theorem dX7_noteWhatCanNotBe_45 : decode cX7_noteWhatCanNotBe 45 = .ok (.aload_n 0, 1) := by decide +kernel
theorem dX7_noteWhatCanNotBe_46 : decode cX7_noteWhatCanNotBe 46 = .ok (.iconst 2, 1) := by decide +kernel
theorem dX7_noteWhatCanNotBe_47 : decode cX7_noteWhatCanNotBe 47 = .ok (.aload_n 0, 1) := by decide +kernel
theorem dX7_noteWhatCanNotBe_48 : decode cX7_noteWhatCanNotBe 48 = .ok (.getfield 12, 3) := by decide +kernel
theorem dX7_noteWhatCanNotBe_51 : decode cX7_noteWhatCanNotBe 51 = .ok (.getfield 104, 3) := by decide +kernel
theorem dX7_noteWhatCanNotBe_54 : decode cX7_noteWhatCanNotBe 54 = .ok (.iload_n 1, 1) := by decide +kernel
theorem dX7_noteWhatCanNotBe_55 : decode cX7_noteWhatCanNotBe 55 = .ok (.invokestatic 108, 3) := by decide +kernel
theorem dX7_noteWhatCanNotBe_58 : decode cX7_noteWhatCanNotBe 58 = .ok (.invokevirtual 87, 3) := by decide +kernel
theorem dX7_noteWhatCanNotBe_61 : decode cX7_noteWhatCanNotBe 61 = .ok (.iinc 1 1, 3) := by decide +kernel
theorem dX7_noteWhatCanNotBe_64 : decode cX7_noteWhatCanNotBe 64 = .ok (.goto (-62), 3) := by decide +kernel
theorem dX7_noteWhatCanNotBe_67 : decode cX7_noteWhatCanNotBe 67 = .ok (.aload_n 0, 1) := by decide +kernel
theorem dX7_noteWhatCanNotBe_68 : decode cX7_noteWhatCanNotBe 68 = .ok (.getfield 12, 3) := by decide +kernel
theorem dX7_noteWhatCanNotBe_71 : decode cX7_noteWhatCanNotBe 71 = .ok (.getfield 114, 3) := by decide +kernel
theorem dX7_noteWhatCanNotBe_74 : decode cX7_noteWhatCanNotBe 74 = .ok (.iconst (-1), 1) := by decide +kernel
theorem dX7_noteWhatCanNotBe_75 : decode cX7_noteWhatCanNotBe 75 = .ok (.if_icmp .eq 15, 3) := by decide +kernel
theorem dX7_noteWhatCanNotBe_78 : decode cX7_noteWhatCanNotBe 78 = .ok (.aload_n 0, 1) := by decide +kernel
theorem dX7_noteWhatCanNotBe_79 : decode cX7_noteWhatCanNotBe 79 = .ok (.iconst 2, 1) := by decide +kernel
theorem dX7_noteWhatCanNotBe_80 : decode cX7_noteWhatCanNotBe 80 = .ok (.aload_n 0, 1) := by decide +kernel
theorem dX7_noteWhatCanNotBe_81 : decode cX7_noteWhatCanNotBe 81 = .ok (.getfield 12, 3) := by decide +kernel
theorem dX7_noteWhatCanNotBe_84 : decode cX7_noteWhatCanNotBe 84 = .ok (.getfield 114, 3) := by decide +kernel
theorem dX7_noteWhatCanNotBe_87 : decode cX7_noteWhatCanNotBe 87 = .ok (.invokevirtual 87, 3) := by decide +kernel
theorem dX7_noteWhatCanNotBe_90 : decode cX7_noteWhatCanNotBe 90 = .ok (.return_, 1) := by decide +kernel
theorem dX7_least_0 : decode cX7_least 0 = .ok (.aload_n 0, 1) := by decide +kernel
theorem dX7_least_1 : decode cX7_least 1 = .ok (.getfield 12, 3) := by decide +kernel
theorem dX7_least_4 : decode cX7_least 4 = .ok (.getfield 117, 3) := by decide +kernel
theorem dX7_least_7 : decode cX7_least 7 = .ok (.iconst 1, 1) := by decide +kernel
theorem dX7_least_8 : decode cX7_least 8 = .ok (.if_icmp .eq 31, 3) := by decide +kernel
theorem dX7_least_11 : decode cX7_least 11 = .ok (.aload_n 0, 1) := by decide +kernel
theorem dX7_least_12 : decode cX7_least 12 = .ok (.getfield 12, 3) := by decide +kernel
theorem dX7_least_15 : decode cX7_least 15 = .ok (.getfield 117, 3) := by decide +kernel
theorem dX7_least_18 : decode cX7_least 18 = .ok (.iconst 2, 1) := by decide +kernel
theorem dX7_least_19 : decode cX7_least 19 = .ok (.if_icmp .eq 20, 3) := by decide +kernel
theorem dX7_least_22 : decode cX7_least 22 = .ok (.aload_n 0, 1) := by decide +kernel
theorem dX7_least_23 : decode cX7_least 23 = .ok (.getfield 12, 3) := by decide +kernel
theorem dX7_least_26 : decode cX7_least 26 = .ok (.getfield 117, 3) := by decide +kernel
theorem dX7_least_29 : decode cX7_least 29 = .ok (.bipush 10, 2) := by decide +kernel
theorem dX7_least_31 : decode cX7_least 31 = .ok (.if_icmp .ne 12, 3) := by decide +kernel
theorem dX7_least_34 : decode cX7_least 34 = .ok (.iload_n 1, 1) := by decide +kernel
theorem dX7_least_35 : decode cX7_least 35 = .ok (.iconst 2, 1) := by decide +kernel
theorem dX7_least_36 : decode cX7_least 36 = .ok (.if_icmp .ne 7, 3) := by decide +kernel
theorem dX7_least_39 : decode cX7_least 39 = .ok (.iconst 1, 1) := by decide +kernel
theorem dX7_least_40 : decode cX7_least 40 = .ok (.goto 4, 3) := by decide +kernel
theorem dX7_least_43 : decode cX7_least 43 = .ok (.iconst 0, 1) := by decide +kernel
theorem dX7_least_44 : decode cX7_least 44 = .ok (.istore_n 2, 1) := by decide +kernel
theorem dX7_least_45 : decode cX7_least 45 = .ok (.iload_n 2, 1) := by decide +kernel
theorem dX7_least_46 : decode cX7_least 46 = .ok (.ifCond .eq 7, 3) := by decide +kernel
theorem dX7_least_49 : decode cX7_least 49 = .ok (.iconst 1, 1) := by decide +kernel
theorem dX7_least_50 : decode cX7_least 50 = .ok (.goto 4, 3) := by decide +kernel
theorem dX7_least_53 : decode cX7_least 53 = .ok (.iconst 0, 1) := by decide +kernel
theorem dX7_least_54 : decode cX7_least 54 = .ok (.ireturn, 1) := by decide +kernel
theorem dX7_most_0 : decode cX7_most 0 = .ok (.aload_n 0, 1) := by decide +kernel
theorem dX7_most_1 : decode cX7_most 1 = .ok (.getfield 12, 3) := by decide +kernel
theorem dX7_most_4 : decode cX7_most 4 = .ok (.getfield 117, 3) := by decide +kernel
theorem dX7_most_7 : decode cX7_most 7 = .ok (.tableswitch 126 1 14 #[69, 69, 126, 126, 126, 126, 126, 126, 72, 83, 104, 115, 115, 115], 69) := by decide +kernel
theorem dX7_most_76 : decode cX7_most 76 = .ok (.bipush 9, 2) := by decide +kernel
theorem dX7_most_78 : decode cX7_most 78 = .ok (.ireturn, 1) := by decide +kernel
theorem dX7_most_79 : decode cX7_most 79 = .ok (.iload_n 1, 1) := by decide +kernel
theorem dX7_most_80 : decode cX7_most 80 = .ok (.ifCond .ne 7, 3) := by decide +kernel
theorem dX7_most_83 : decode cX7_most 83 = .ok (.iconst 3, 1) := by decide +kernel
theorem dX7_most_84 : decode cX7_most 84 = .ok (.goto 5, 3) := by decide +kernel
theorem dX7_most_87 : decode cX7_most 87 = .ok (.bipush 20, 2) := by decide +kernel
theorem dX7_most_89 : decode cX7_most 89 = .ok (.ireturn, 1) := by decide +kernel
theorem dX7_most_90 : decode cX7_most 90 = .ok (.iload_n 1, 1) := by decide +kernel
theorem dX7_most_91 : decode cX7_most 91 = .ok (.ifCond .ne 7, 3) := by decide +kernel
theorem dX7_most_94 : decode cX7_most 94 = .ok (.iconst 3, 1) := by decide +kernel
theorem dX7_most_95 : decode cX7_most 95 = .ok (.goto 15, 3) := by decide +kernel
theorem dX7_most_98 : decode cX7_most 98 = .ok (.iload_n 1, 1) := by decide +kernel
theorem dX7_most_99 : decode cX7_most 99 = .ok (.iconst 1, 1) := by decide +kernel
theorem dX7_most_100 : decode cX7_most 100 = .ok (.if_icmp .ne 8, 3) := by decide +kernel
theorem dX7_most_103 : decode cX7_most 103 = .ok (.bipush 19, 2) := by decide +kernel
theorem dX7_most_105 : decode cX7_most 105 = .ok (.goto 5, 3) := by decide +kernel
theorem dX7_most_108 : decode cX7_most 108 = .ok (.bipush 20, 2) := by decide +kernel
theorem dX7_most_110 : decode cX7_most 110 = .ok (.ireturn, 1) := by decide +kernel
theorem dX7_most_111 : decode cX7_most 111 = .ok (.iload_n 1, 1) := by decide +kernel
theorem dX7_most_112 : decode cX7_most 112 = .ok (.ifCond .ne 7, 3) := by decide +kernel
theorem dX7_most_115 : decode cX7_most 115 = .ok (.iconst 3, 1) := by decide +kernel
theorem dX7_most_116 : decode cX7_most 116 = .ok (.goto 5, 3) := by decide +kernel
theorem dX7_most_119 : decode cX7_most 119 = .ok (.bipush 19, 2) := by decide +kernel
theorem dX7_most_121 : decode cX7_most 121 = .ok (.ireturn, 1) := by decide +kernel
theorem dX7_most_122 : decode cX7_most 122 = .ok (.iload_n 1, 1) := by decide +kernel
theorem dX7_most_123 : decode cX7_most 123 = .ok (.ifCond .ne 7, 3) := by decide +kernel
theorem dX7_most_126 : decode cX7_most 126 = .ok (.iconst 3, 1) := by decide +kernel
theorem dX7_most_127 : decode cX7_most 127 = .ok (.goto 5, 3) := by decide +kernel
theorem dX7_most_130 : decode cX7_most 130 = .ok (.bipush 9, 2) := by decide +kernel
theorem dX7_most_132 : decode cX7_most 132 = .ok (.ireturn, 1) := by decide +kernel
theorem dX7_most_133 : decode cX7_most 133 = .ok (.bipush 8, 2) := by decide +kernel
theorem dX7_most_135 : decode cX7_most 135 = .ok (.aload_n 0, 1) := by decide +kernel
theorem dX7_most_136 : decode cX7_most 136 = .ok (.getfield 28, 3) := by decide +kernel
theorem dX7_most_139 : decode cX7_most 139 = .ok (.getfield 49, 3) := by decide +kernel
theorem dX7_most_142 : decode cX7_most 142 = .ok (.invokestatic 120, 3) := by decide +kernel
theorem dX7_most_145 : decode cX7_most 145 = .ok (.iconst 1, 1) := by decide +kernel
theorem dX7_most_146 : decode cX7_most 146 = .ok (.isub, 1) := by decide +kernel
theorem dX7_most_147 : decode cX7_most 147 = .ok (.ireturn, 1) := by decide +kernel
theorem dX7_takeVersion_0 : decode cX7_takeVersion 0 = .ok (.aload_n 0, 1) := by decide +kernel
theorem dX7_takeVersion_1 : decode cX7_takeVersion 1 = .ok (.getfield 12, 3) := by decide +kernel
theorem dX7_takeVersion_4 : decode cX7_takeVersion 4 = .ok (.getfield 117, 3) := by decide +kernel
theorem dX7_takeVersion_7 : decode cX7_takeVersion 7 = .ok (.bipush 8, 2) := by decide +kernel
theorem dX7_takeVersion_9 : decode cX7_takeVersion 9 = .ok (.if_icmp .ne 35, 3) := by decide +kernel
theorem dX7_takeVersion_12 : decode cX7_takeVersion 12 = .ok (.aload_n 0, 1) := by decide +kernel
theorem dX7_takeVersion_13 : decode cX7_takeVersion 13 = .ok (.getfield 21, 3) := by decide +kernel
theorem dX7_takeVersion_16 : decode cX7_takeVersion 16 = .ok (.getfield 126, 3) := by decide +kernel
theorem dX7_takeVersion_19 : decode cX7_takeVersion 19 = .ok (.iconst 4, 1) := by decide +kernel
theorem dX7_takeVersion_20 : decode cX7_takeVersion 20 = .ok (.if_icmp .lt 15, 3) := by decide +kernel
theorem dX7_takeVersion_23 : decode cX7_takeVersion 23 = .ok (.aload_n 0, 1) := by decide +kernel
theorem dX7_takeVersion_24 : decode cX7_takeVersion 24 = .ok (.iconst 3, 1) := by decide +kernel
theorem dX7_takeVersion_25 : decode cX7_takeVersion 25 = .ok (.aload_n 0, 1) := by decide +kernel
theorem dX7_takeVersion_26 : decode cX7_takeVersion 26 = .ok (.getfield 12, 3) := by decide +kernel
theorem dX7_takeVersion_29 : decode cX7_takeVersion 29 = .ok (.getfield 129, 3) := by decide +kernel
theorem dX7_takeVersion_32 : decode cX7_takeVersion 32 = .ok (.invokevirtual 87, 3) := by decide +kernel
theorem dX7_takeVersion_35 : decode cX7_takeVersion 35 = .ok (.aload_n 0, 1) := by decide +kernel
theorem dX7_takeVersion_36 : decode cX7_takeVersion 36 = .ok (.bipush 20, 2) := by decide +kernel
theorem dX7_takeVersion_38 : decode cX7_takeVersion 38 = .ok (.invokevirtual 132, 3) := by decide +kernel
theorem dX7_takeVersion_41 : decode cX7_takeVersion 41 = .ok (.goto 48, 3) := by decide +kernel
theorem dX7_takeVersion_44 : decode cX7_takeVersion 44 = .ok (.aload_n 0, 1) := by decide +kernel
theorem dX7_takeVersion_45 : decode cX7_takeVersion 45 = .ok (.getfield 39, 3) := by decide +kernel
theorem dX7_takeVersion_48 : decode cX7_takeVersion 48 = .ok (.ifCond .ne 7, 3) := by decide +kernel
theorem dX7_takeVersion_51 : decode cX7_takeVersion 51 = .ok (.aload_n 0, 1) := by decide +kernel
theorem dX7_takeVersion_52 : decode cX7_takeVersion 52 = .ok (.invokevirtual 135, 3) := by decide +kernel
theorem dX7_takeVersion_55 : decode cX7_takeVersion 55 = .ok (.aload_n 0, 1) := by decide +kernel
theorem dX7_takeVersion_56 : decode cX7_takeVersion 56 = .ok (.getfield 12, 3) := by decide +kernel
theorem dX7_takeVersion_59 : decode cX7_takeVersion 59 = .ok (.getfield 117, 3) := by decide +kernel
theorem dX7_takeVersion_62 : decode cX7_takeVersion 62 = .ok (.bipush 9, 2) := by decide +kernel
theorem dX7_takeVersion_64 : decode cX7_takeVersion 64 = .ok (.if_icmp .ne 25, 3) := by decide +kernel
theorem dX7_takeVersion_67 : decode cX7_takeVersion 67 = .ok (.aload_n 0, 1) := by decide +kernel
theorem dX7_takeVersion_68 : decode cX7_takeVersion 68 = .ok (.bipush 20, 2) := by decide +kernel
theorem dX7_takeVersion_70 : decode cX7_takeVersion 70 = .ok (.aload_n 0, 1) := by decide +kernel
theorem dX7_takeVersion_71 : decode cX7_takeVersion 71 = .ok (.getfield 21, 3) := by decide +kernel
theorem dX7_takeVersion_74 : decode cX7_takeVersion 74 = .ok (.aload_n 0, 1) := by decide +kernel
theorem dX7_takeVersion_75 : decode cX7_takeVersion 75 = .ok (.getfield 12, 3) := by decide +kernel
theorem dX7_takeVersion_78 : decode cX7_takeVersion 78 = .ok (.iconst 0, 1) := by decide +kernel
theorem dX7_takeVersion_79 : decode cX7_takeVersion 79 = .ok (.invokevirtual 94, 3) := by decide +kernel
theorem dX7_takeVersion_82 : decode cX7_takeVersion 82 = .ok (.invokevirtual 138, 3) := by decide +kernel
theorem dX7_takeVersion_85 : decode cX7_takeVersion 85 = .ok (.isub, 1) := by decide +kernel
theorem dX7_takeVersion_86 : decode cX7_takeVersion 86 = .ok (.invokevirtual 132, 3) := by decide +kernel
theorem dX7_takeVersion_89 : decode cX7_takeVersion 89 = .ok (.aload_n 0, 1) := by decide +kernel
theorem dX7_takeVersion_90 : decode cX7_takeVersion 90 = .ok (.getfield 39, 3) := by decide +kernel
theorem dX7_takeVersion_93 : decode cX7_takeVersion 93 = .ok (.ifCond .ne 8, 3) := by decide +kernel
theorem dX7_takeVersion_96 : decode cX7_takeVersion 96 = .ok (.aload_n 0, 1) := by decide +kernel
theorem dX7_takeVersion_97 : decode cX7_takeVersion 97 = .ok (.iload_n 1, 1) := by decide +kernel
theorem dX7_takeVersion_98 : decode cX7_takeVersion 98 = .ok (.invokevirtual 141, 3) := by decide +kernel
theorem dX7_takeVersion_101 : decode cX7_takeVersion 101 = .ok (.return_, 1) := by decide +kernel
theorem dX7_noteFirstToken_0 : decode cX7_noteFirstToken 0 = .ok (.aload_n 0, 1) := by decide +kernel
theorem dX7_noteFirstToken_1 : decode cX7_noteFirstToken 1 = .ok (.getfield 12, 3) := by decide +kernel
theorem dX7_noteFirstToken_4 : decode cX7_noteFirstToken 4 = .ok (.iconst 0, 1) := by decide +kernel
theorem dX7_noteFirstToken_5 : decode cX7_noteFirstToken 5 = .ok (.invokevirtual 94, 3) := by decide +kernel
theorem dX7_noteFirstToken_8 : decode cX7_noteFirstToken 8 = .ok (.istore_n 1, 1) := by decide +kernel
theorem dX7_noteFirstToken_9 : decode cX7_noteFirstToken 9 = .ok (.aload_n 0, 1) := by decide +kernel
theorem dX7_noteFirstToken_10 : decode cX7_noteFirstToken 10 = .ok (.getfield 21, 3) := by decide +kernel
theorem dX7_noteFirstToken_13 : decode cX7_noteFirstToken 13 = .ok (.iload_n 1, 1) := by decide +kernel
theorem dX7_noteFirstToken_14 : decode cX7_noteFirstToken 14 = .ok (.invokevirtual 144, 3) := by decide +kernel
theorem dX7_noteFirstToken_17 : decode cX7_noteFirstToken 17 = .ok (.bipush 10, 2) := by decide +kernel
theorem dX7_noteFirstToken_19 : decode cX7_noteFirstToken 19 = .ok (.if_icmp .lt 15, 3) := by decide +kernel
theorem dX7_noteFirstToken_22 : decode cX7_noteFirstToken 22 = .ok (.aload_n 0, 1) := by decide +kernel
theorem dX7_noteFirstToken_23 : decode cX7_noteFirstToken 23 = .ok (.iconst 3, 1) := by decide +kernel
theorem dX7_noteFirstToken_24 : decode cX7_noteFirstToken 24 = .ok (.aload_n 0, 1) := by decide +kernel
theorem dX7_noteFirstToken_25 : decode cX7_noteFirstToken 25 = .ok (.getfield 12, 3) := by decide +kernel
theorem dX7_noteFirstToken_28 : decode cX7_noteFirstToken 28 = .ok (.getfield 129, 3) := by decide +kernel
theorem dX7_noteFirstToken_31 : decode cX7_noteFirstToken 31 = .ok (.invokevirtual 87, 3) := by decide +kernel
theorem dX7_noteFirstToken_34 : decode cX7_noteFirstToken 34 = .ok (.aload_n 0, 1) := by decide +kernel
theorem dX7_noteFirstToken_35 : decode cX7_noteFirstToken 35 = .ok (.getfield 21, 3) := by decide +kernel
theorem dX7_noteFirstToken_38 : decode cX7_noteFirstToken 38 = .ok (.iload_n 1, 1) := by decide +kernel
theorem dX7_noteFirstToken_39 : decode cX7_noteFirstToken 39 = .ok (.invokevirtual 147, 3) := by decide +kernel
theorem dX7_noteFirstToken_42 : decode cX7_noteFirstToken 42 = .ok (.ifCond .eq 19, 3) := by decide +kernel
theorem dX7_noteFirstToken_45 : decode cX7_noteFirstToken 45 = .ok (.aload_n 0, 1) := by decide +kernel
theorem dX7_noteFirstToken_46 : decode cX7_noteFirstToken 46 = .ok (.iload_n 1, 1) := by decide +kernel
theorem dX7_noteFirstToken_47 : decode cX7_noteFirstToken 47 = .ok (.aload_n 0, 1) := by decide +kernel
theorem dX7_noteFirstToken_48 : decode cX7_noteFirstToken 48 = .ok (.getfield 21, 3) := by decide +kernel
theorem dX7_noteFirstToken_51 : decode cX7_noteFirstToken 51 = .ok (.iload_n 1, 1) := by decide +kernel
theorem dX7_noteFirstToken_52 : decode cX7_noteFirstToken 52 = .ok (.invokevirtual 138, 3) := by decide +kernel
theorem dX7_noteFirstToken_55 : decode cX7_noteFirstToken 55 = .ok (.invokevirtual 151, 3) := by decide +kernel
theorem dX7_noteFirstToken_58 : decode cX7_noteFirstToken 58 = .ok (.ifCond .ne 15, 3) := by decide +kernel
theorem dX7_noteFirstToken_61 : decode cX7_noteFirstToken 61 = .ok (.aload_n 0, 1) := by decide +kernel
theorem dX7_noteFirstToken_62 : decode cX7_noteFirstToken 62 = .ok (.iconst 4, 1) := by decide +kernel
theorem dX7_noteFirstToken_63 : decode cX7_noteFirstToken 63 = .ok (.aload_n 0, 1) := by decide +kernel
theorem dX7_noteFirstToken_64 : decode cX7_noteFirstToken 64 = .ok (.getfield 12, 3) := by decide +kernel
theorem dX7_noteFirstToken_67 : decode cX7_noteFirstToken 67 = .ok (.getfield 129, 3) := by decide +kernel
theorem dX7_noteFirstToken_70 : decode cX7_noteFirstToken 70 = .ok (.invokevirtual 87, 3) := by decide +kernel
theorem dX7_noteFirstToken_73 : decode cX7_noteFirstToken 73 = .ok (.return_, 1) := by decide +kernel
theorem dX7_isThere_0 : decode cX7_isThere 0 = .ok (.aload_n 0, 1) := by decide +kernel
theorem dX7_isThere_1 : decode cX7_isThere 1 = .ok (.getfield 12, 3) := by decide +kernel
theorem dX7_isThere_4 : decode cX7_isThere 4 = .ok (.getfield 117, 3) := by decide +kernel
theorem dX7_isThere_7 : decode cX7_isThere 7 = .ok (.tableswitch 100 9 11 #[25, 43, 70], 25) := by decide +kernel
theorem dX7_isThere_32 : decode cX7_isThere 32 = .ok (.aload_n 0, 1) := by decide +kernel
theorem dX7_isThere_33 : decode cX7_isThere 33 = .ok (.getfield 12, 3) := by decide +kernel
theorem dX7_isThere_36 : decode cX7_isThere 36 = .ok (.iconst 1, 1) := by decide +kernel
theorem dX7_isThere_37 : decode cX7_isThere 37 = .ok (.invokevirtual 94, 3) := by decide +kernel
theorem dX7_isThere_40 : decode cX7_isThere 40 = .ok (.iload_n 2, 1) := by decide +kernel
theorem dX7_isThere_41 : decode cX7_isThere 41 = .ok (.if_icmp .gt 7, 3) := by decide +kernel
theorem dX7_isThere_44 : decode cX7_isThere 44 = .ok (.iconst 1, 1) := by decide +kernel
theorem dX7_isThere_45 : decode cX7_isThere 45 = .ok (.goto 4, 3) := by decide +kernel
theorem dX7_isThere_48 : decode cX7_isThere 48 = .ok (.iconst 0, 1) := by decide +kernel
theorem dX7_isThere_49 : decode cX7_isThere 49 = .ok (.ireturn, 1) := by decide +kernel
theorem dX7_isThere_50 : decode cX7_isThere 50 = .ok (.aload_n 0, 1) := by decide +kernel
theorem dX7_isThere_51 : decode cX7_isThere 51 = .ok (.getfield 12, 3) := by decide +kernel
theorem dX7_isThere_54 : decode cX7_isThere 54 = .ok (.iconst 1, 1) := by decide +kernel
theorem dX7_isThere_55 : decode cX7_isThere 55 = .ok (.invokevirtual 94, 3) := by decide +kernel
theorem dX7_isThere_58 : decode cX7_isThere 58 = .ok (.aload_n 0, 1) := by decide +kernel
theorem dX7_isThere_59 : decode cX7_isThere 59 = .ok (.getfield 12, 3) := by decide +kernel
theorem dX7_isThere_62 : decode cX7_isThere 62 = .ok (.iconst 2, 1) := by decide +kernel
theorem dX7_isThere_63 : decode cX7_isThere 63 = .ok (.invokevirtual 94, 3) := by decide +kernel
theorem dX7_isThere_66 : decode cX7_isThere 66 = .ok (.iadd, 1) := by decide +kernel
theorem dX7_isThere_67 : decode cX7_isThere 67 = .ok (.iload_n 2, 1) := by decide +kernel
theorem dX7_isThere_68 : decode cX7_isThere 68 = .ok (.if_icmp .gt 7, 3) := by decide +kernel
theorem dX7_isThere_71 : decode cX7_isThere 71 = .ok (.iconst 1, 1) := by decide +kernel
theorem dX7_isThere_72 : decode cX7_isThere 72 = .ok (.goto 4, 3) := by decide +kernel
theorem dX7_isThere_75 : decode cX7_isThere 75 = .ok (.iconst 0, 1) := by decide +kernel
theorem dX7_isThere_76 : decode cX7_isThere 76 = .ok (.ireturn, 1) := by decide +kernel
theorem dX7_isThere_77 : decode cX7_isThere 77 = .ok (.aload_n 0, 1) := by decide +kernel
theorem dX7_isThere_78 : decode cX7_isThere 78 = .ok (.getfield 12, 3) := by decide +kernel
theorem dX7_isThere_81 : decode cX7_isThere 81 = .ok (.iconst 1, 1) := by decide +kernel
theorem dX7_isThere_82 : decode cX7_isThere 82 = .ok (.invokevirtual 94, 3) := by decide +kernel
theorem dX7_isThere_85 : decode cX7_isThere 85 = .ok (.iload_n 2, 1) := by decide +kernel
theorem dX7_isThere_86 : decode cX7_isThere 86 = .ok (.if_icmp .ge 19, 3) := by decide +kernel
theorem dX7_isThere_89 : decode cX7_isThere 89 = .ok (.aload_n 0, 1) := by decide +kernel
theorem dX7_isThere_90 : decode cX7_isThere 90 = .ok (.getfield 12, 3) := by decide +kernel
theorem dX7_isThere_93 : decode cX7_isThere 93 = .ok (.iconst 2, 1) := by decide +kernel
theorem dX7_isThere_94 : decode cX7_isThere 94 = .ok (.invokevirtual 94, 3) := by decide +kernel
theorem dX7_isThere_97 : decode cX7_isThere 97 = .ok (.iload_n 2, 1) := by decide +kernel
theorem dX7_isThere_98 : decode cX7_isThere 98 = .ok (.if_icmp .ge 7, 3) := by decide +kernel
theorem dX7_isThere_101 : decode cX7_isThere 101 = .ok (.iconst 1, 1) := by decide +kernel
theorem dX7_isThere_102 : decode cX7_isThere 102 = .ok (.goto 4, 3) := by decide +kernel
theorem dX7_isThere_105 : decode cX7_isThere 105 = .ok (.iconst 0, 1) := by decide +kernel
theorem dX7_isThere_106 : decode cX7_isThere 106 = .ok (.ireturn, 1) := by decide +kernel
theorem dX7_isThere_107 : decode cX7_isThere 107 = .ok (.aload_n 0, 1) := by decide +kernel
theorem dX7_isThere_108 : decode cX7_isThere 108 = .ok (.getfield 21, 3) := by decide +kernel
theorem dX7_isThere_111 : decode cX7_isThere 111 = .ok (.iload_n 1, 1) := by decide +kernel
theorem dX7_isThere_112 : decode cX7_isThere 112 = .ok (.aload_n 0, 1) := by decide +kernel
theorem dX7_isThere_113 : decode cX7_isThere 113 = .ok (.getfield 12, 3) := by decide +kernel
theorem dX7_isThere_116 : decode cX7_isThere 116 = .ok (.iconst 1, 1) := by decide +kernel
theorem dX7_isThere_117 : decode cX7_isThere 117 = .ok (.invokevirtual 94, 3) := by decide +kernel
theorem dX7_isThere_120 : decode cX7_isThere 120 = .ok (.invokevirtual 155, 3) := by decide +kernel
theorem dX7_isThere_123 : decode cX7_isThere 123 = .ok (.ireturn, 1) := by decide +kernel
theorem dX7_noteTooManyWords_0 : decode cX7_noteTooManyWords 0 = .ok (.aload_n 0, 1) := by decide +kernel
theorem dX7_noteTooManyWords_1 : decode cX7_noteTooManyWords 1 = .ok (.getfield 12, 3) := by decide +kernel
theorem dX7_noteTooManyWords_4 : decode cX7_noteTooManyWords 4 = .ok (.getfield 158, 3) := by decide +kernel
theorem dX7_noteTooManyWords_7 : decode cX7_noteTooManyWords 7 = .ok (.iload_n 1, 1) := by decide +kernel
theorem dX7_noteTooManyWords_8 : decode cX7_noteTooManyWords 8 = .ok (.if_icmp .le 19, 3) := by decide +kernel
theorem dX7_noteTooManyWords_11 : decode cX7_noteTooManyWords 11 = .ok (.aload_n 0, 1) := by decide +kernel
theorem dX7_noteTooManyWords_12 : decode cX7_noteTooManyWords 12 = .ok (.iconst 3, 1) := by decide +kernel
theorem dX7_noteTooManyWords_13 : decode cX7_noteTooManyWords 13 = .ok (.aload_n 0, 1) := by decide +kernel
theorem dX7_noteTooManyWords_14 : decode cX7_noteTooManyWords 14 = .ok (.getfield 12, 3) := by decide +kernel
theorem dX7_noteTooManyWords_17 : decode cX7_noteTooManyWords 17 = .ok (.getfield 161, 3) := by decide +kernel
theorem dX7_noteTooManyWords_20 : decode cX7_noteTooManyWords 20 = .ok (.iload_n 1, 1) := by decide +kernel
theorem dX7_noteTooManyWords_21 : decode cX7_noteTooManyWords 21 = .ok (.invokestatic 108, 3) := by decide +kernel
theorem dX7_noteTooManyWords_24 : decode cX7_noteTooManyWords 24 = .ok (.invokevirtual 87, 3) := by decide +kernel
theorem dX7_noteTooManyWords_27 : decode cX7_noteTooManyWords 27 = .ok (.return_, 1) := by decide +kernel
theorem dX7_makeVersion_0 : decode cX7_makeVersion 0 = .ok (.aload_n 0, 1) := by decide +kernel
theorem dX7_makeVersion_1 : decode cX7_makeVersion 1 = .ok (.getfield 12, 3) := by decide +kernel
theorem dX7_makeVersion_4 : decode cX7_makeVersion 4 = .ok (.iconst 0, 1) := by decide +kernel
theorem dX7_makeVersion_5 : decode cX7_makeVersion 5 = .ok (.invokevirtual 94, 3) := by decide +kernel
theorem dX7_makeVersion_8 : decode cX7_makeVersion 8 = .ok (.istore_n 2, 1) := by decide +kernel
theorem dX7_makeVersion_9 : decode cX7_makeVersion 9 = .ok (.aload_n 0, 1) := by decide +kernel
theorem dX7_makeVersion_10 : decode cX7_makeVersion 10 = .ok (.getfield 12, 3) := by decide +kernel
theorem dX7_makeVersion_13 : decode cX7_makeVersion 13 = .ok (.getfield 117, 3) := by decide +kernel
theorem dX7_makeVersion_16 : decode cX7_makeVersion 16 = .ok (.tableswitch 147 8 11 #[32, 57, 91, 119], 32) := by decide +kernel
theorem dX7_makeVersion_48 : decode cX7_makeVersion 48 = .ok (.aload_n 0, 1) := by decide +kernel
theorem dX7_makeVersion_49 : decode cX7_makeVersion 49 = .ok (.getfield 21, 3) := by decide +kernel
theorem dX7_makeVersion_52 : decode cX7_makeVersion 52 = .ok (.aload_n 0, 1) := by decide +kernel
theorem dX7_makeVersion_53 : decode cX7_makeVersion 53 = .ok (.getfield 12, 3) := by decide +kernel
theorem dX7_makeVersion_56 : decode cX7_makeVersion 56 = .ok (.getfield 164, 3) := by decide +kernel
theorem dX7_makeVersion_59 : decode cX7_makeVersion 59 = .ok (.aload_n 0, 1) := by decide +kernel
theorem dX7_makeVersion_60 : decode cX7_makeVersion 60 = .ok (.getfield 12, 3) := by decide +kernel
theorem dX7_makeVersion_63 : decode cX7_makeVersion 63 = .ok (.getfield 158, 3) := by decide +kernel
theorem dX7_makeVersion_66 : decode cX7_makeVersion 66 = .ok (.iload_n 1, 1) := by decide +kernel
theorem dX7_makeVersion_67 : decode cX7_makeVersion 67 = .ok (.invokevirtual 167, 3) := by decide +kernel
theorem dX7_makeVersion_70 : decode cX7_makeVersion 70 = .ok (.goto 110, 3) := by decide +kernel
theorem dX7_makeVersion_73 : decode cX7_makeVersion 73 = .ok (.aload_n 0, 1) := by decide +kernel
theorem dX7_makeVersion_74 : decode cX7_makeVersion 74 = .ok (.getfield 21, 3) := by decide +kernel
theorem dX7_makeVersion_77 : decode cX7_makeVersion 77 = .ok (.iload_n 2, 1) := by decide +kernel
theorem dX7_makeVersion_78 : decode cX7_makeVersion 78 = .ok (.aload_n 0, 1) := by decide +kernel
theorem dX7_makeVersion_79 : decode cX7_makeVersion 79 = .ok (.getfield 12, 3) := by decide +kernel
theorem dX7_makeVersion_82 : decode cX7_makeVersion 82 = .ok (.iconst 1, 1) := by decide +kernel
theorem dX7_makeVersion_83 : decode cX7_makeVersion 83 = .ok (.invokevirtual 94, 3) := by decide +kernel
theorem dX7_makeVersion_86 : decode cX7_makeVersion 86 = .ok (.aload_n 0, 1) := by decide +kernel
theorem dX7_makeVersion_87 : decode cX7_makeVersion 87 = .ok (.getfield 12, 3) := by decide +kernel
theorem dX7_makeVersion_90 : decode cX7_makeVersion 90 = .ok (.getfield 164, 3) := by decide +kernel
theorem dX7_makeVersion_93 : decode cX7_makeVersion 93 = .ok (.aload_n 0, 1) := by decide +kernel
theorem dX7_makeVersion_94 : decode cX7_makeVersion 94 = .ok (.getfield 12, 3) := by decide +kernel
theorem dX7_makeVersion_97 : decode cX7_makeVersion 97 = .ok (.getfield 158, 3) := by decide +kernel
theorem dX7_makeVersion_100 : decode cX7_makeVersion 100 = .ok (.iload_n 1, 1) := by decide +kernel
theorem dX7_makeVersion_101 : decode cX7_makeVersion 101 = .ok (.invokevirtual 171, 3) := by decide +kernel
theorem dX7_makeVersion_104 : decode cX7_makeVersion 104 = .ok (.goto 76, 3) := by decide +kernel
theorem dX7_makeVersion_107 : decode cX7_makeVersion 107 = .ok (.aload_n 0, 1) := by decide +kernel
theorem dX7_makeVersion_108 : decode cX7_makeVersion 108 = .ok (.getfield 21, 3) := by decide +kernel
theorem dX7_makeVersion_111 : decode cX7_makeVersion 111 = .ok (.iload_n 2, 1) := by decide +kernel
theorem dX7_makeVersion_112 : decode cX7_makeVersion 112 = .ok (.aload_n 0, 1) := by decide +kernel
theorem dX7_makeVersion_113 : decode cX7_makeVersion 113 = .ok (.getfield 12, 3) := by decide +kernel
theorem dX7_makeVersion_116 : decode cX7_makeVersion 116 = .ok (.iconst 1, 1) := by decide +kernel
theorem dX7_makeVersion_117 : decode cX7_makeVersion 117 = .ok (.invokevirtual 94, 3) := by decide +kernel
theorem dX7_makeVersion_120 : decode cX7_makeVersion 120 = .ok (.aload_n 0, 1) := by decide +kernel
theorem dX7_makeVersion_121 : decode cX7_makeVersion 121 = .ok (.getfield 12, 3) := by decide +kernel
theorem dX7_makeVersion_124 : decode cX7_makeVersion 124 = .ok (.iconst 2, 1) := by decide +kernel
theorem dX7_makeVersion_125 : decode cX7_makeVersion 125 = .ok (.invokevirtual 94, 3) := by decide +kernel
theorem dX7_makeVersion_128 : decode cX7_makeVersion 128 = .ok (.iload_n 1, 1) := by decide +kernel
theorem dX7_makeVersion_129 : decode cX7_makeVersion 129 = .ok (.invokevirtual 175, 3) := by decide +kernel
theorem dX7_makeVersion_132 : decode cX7_makeVersion 132 = .ok (.goto 48, 3) := by decide +kernel
theorem dX7_makeVersion_135 : decode cX7_makeVersion 135 = .ok (.aload_n 0, 1) := by decide +kernel
theorem dX7_makeVersion_136 : decode cX7_makeVersion 136 = .ok (.getfield 21, 3) := by decide +kernel
theorem dX7_makeVersion_139 : decode cX7_makeVersion 139 = .ok (.iload_n 2, 1) := by decide +kernel
theorem dX7_makeVersion_140 : decode cX7_makeVersion 140 = .ok (.aload_n 0, 1) := by decide +kernel
theorem dX7_makeVersion_141 : decode cX7_makeVersion 141 = .ok (.getfield 12, 3) := by decide +kernel
theorem dX7_makeVersion_144 : decode cX7_makeVersion 144 = .ok (.iconst 1, 1) := by decide +kernel
theorem dX7_makeVersion_145 : decode cX7_makeVersion 145 = .ok (.invokevirtual 94, 3) := by decide +kernel
theorem dX7_makeVersion_148 : decode cX7_makeVersion 148 = .ok (.aload_n 0, 1) := by decide +kernel
theorem dX7_makeVersion_149 : decode cX7_makeVersion 149 = .ok (.getfield 12, 3) := by decide +kernel
theorem dX7_makeVersion_152 : decode cX7_makeVersion 152 = .ok (.iconst 2, 1) := by decide +kernel
theorem dX7_makeVersion_153 : decode cX7_makeVersion 153 = .ok (.invokevirtual 94, 3) := by decide +kernel
theorem dX7_makeVersion_156 : decode cX7_makeVersion 156 = .ok (.iload_n 1, 1) := by decide +kernel
theorem dX7_makeVersion_157 : decode cX7_makeVersion 157 = .ok (.invokevirtual 179, 3) := by decide +kernel
theorem dX7_makeVersion_160 : decode cX7_makeVersion 160 = .ok (.goto 20, 3) := by decide +kernel
theorem dX7_makeVersion_163 : decode cX7_makeVersion 163 = .ok (.aload_n 0, 1) := by decide +kernel
theorem dX7_makeVersion_164 : decode cX7_makeVersion 164 = .ok (.getfield 21, 3) := by decide +kernel
theorem dX7_makeVersion_167 : decode cX7_makeVersion 167 = .ok (.iload_n 2, 1) := by decide +kernel
theorem dX7_makeVersion_168 : decode cX7_makeVersion 168 = .ok (.aload_n 0, 1) := by decide +kernel
theorem dX7_makeVersion_169 : decode cX7_makeVersion 169 = .ok (.getfield 12, 3) := by decide +kernel
theorem dX7_makeVersion_172 : decode cX7_makeVersion 172 = .ok (.iconst 1, 1) := by decide +kernel
theorem dX7_makeVersion_173 : decode cX7_makeVersion 173 = .ok (.invokevirtual 94, 3) := by decide +kernel
theorem dX7_makeVersion_176 : decode cX7_makeVersion 176 = .ok (.iload_n 1, 1) := by decide +kernel
theorem dX7_makeVersion_177 : decode cX7_makeVersion 177 = .ok (.invokevirtual 182, 3) := by decide +kernel
theorem dX7_makeVersion_180 : decode cX7_makeVersion 180 = .ok (.return_, 1) := by decide +kernel
theorem dX7_takeQuestion_0 : decode cX7_takeQuestion 0 = .ok (.aload_n 0, 1) := by decide +kernel
theorem dX7_takeQuestion_1 : decode cX7_takeQuestion 1 = .ok (.getfield 28, 3) := by decide +kernel
theorem dX7_takeQuestion_4 : decode cX7_takeQuestion 4 = .ok (.getfield 49, 3) := by decide +kernel
theorem dX7_takeQuestion_7 : decode cX7_takeQuestion 7 = .ok (.bipush 8, 2) := by decide +kernel
theorem dX7_takeQuestion_9 : decode cX7_takeQuestion 9 = .ok (.if_icmp .lt 15, 3) := by decide +kernel
theorem dX7_takeQuestion_12 : decode cX7_takeQuestion 12 = .ok (.aload_n 0, 1) := by decide +kernel
theorem dX7_takeQuestion_13 : decode cX7_takeQuestion 13 = .ok (.iconst 3, 1) := by decide +kernel
theorem dX7_takeQuestion_14 : decode cX7_takeQuestion 14 = .ok (.aload_n 0, 1) := by decide +kernel
theorem dX7_takeQuestion_15 : decode cX7_takeQuestion 15 = .ok (.getfield 12, 3) := by decide +kernel
theorem dX7_takeQuestion_18 : decode cX7_takeQuestion 18 = .ok (.getfield 129, 3) := by decide +kernel
theorem dX7_takeQuestion_21 : decode cX7_takeQuestion 21 = .ok (.invokevirtual 87, 3) := by decide +kernel
theorem dX7_takeQuestion_24 : decode cX7_takeQuestion 24 = .ok (.aload_n 0, 1) := by decide +kernel
theorem dX7_takeQuestion_25 : decode cX7_takeQuestion 25 = .ok (.getfield 12, 3) := by decide +kernel
theorem dX7_takeQuestion_28 : decode cX7_takeQuestion 28 = .ok (.getfield 117, 3) := by decide +kernel
theorem dX7_takeQuestion_31 : decode cX7_takeQuestion 31 = .ok (.ifCond .ne 8, 3) := by decide +kernel
theorem dX7_takeQuestion_34 : decode cX7_takeQuestion 34 = .ok (.aload_n 0, 1) := by decide +kernel
theorem dX7_takeQuestion_35 : decode cX7_takeQuestion 35 = .ok (.iconst 4, 1) := by decide +kernel
theorem dX7_takeQuestion_36 : decode cX7_takeQuestion 36 = .ok (.invokevirtual 132, 3) := by decide +kernel
theorem dX7_takeQuestion_39 : decode cX7_takeQuestion 39 = .ok (.aload_n 0, 1) := by decide +kernel
theorem dX7_takeQuestion_40 : decode cX7_takeQuestion 40 = .ok (.getfield 39, 3) := by decide +kernel
theorem dX7_takeQuestion_43 : decode cX7_takeQuestion 43 = .ok (.ifCond .ne 14, 3) := by decide +kernel
theorem dX7_takeQuestion_46 : decode cX7_takeQuestion 46 = .ok (.aload_n 0, 1) := by decide +kernel
theorem dX7_takeQuestion_47 : decode cX7_takeQuestion 47 = .ok (.getfield 28, 3) := by decide +kernel
theorem dX7_takeQuestion_50 : decode cX7_takeQuestion 50 = .ok (.aload_n 0, 1) := by decide +kernel
theorem dX7_takeQuestion_51 : decode cX7_takeQuestion 51 = .ok (.getfield 12, 3) := by decide +kernel
theorem dX7_takeQuestion_54 : decode cX7_takeQuestion 54 = .ok (.invokevirtual 186, 3) := by decide +kernel
theorem dX7_takeQuestion_57 : decode cX7_takeQuestion 57 = .ok (.return_, 1) := by decide +kernel
theorem dX7_takeFact_0 : decode cX7_takeFact 0 = .ok (.aload_n 0, 1) := by decide +kernel
theorem dX7_takeFact_1 : decode cX7_takeFact 1 = .ok (.getfield 35, 3) := by decide +kernel
theorem dX7_takeFact_4 : decode cX7_takeFact 4 = .ok (.getfield 52, 3) := by decide +kernel
theorem dX7_takeFact_7 : decode cX7_takeFact 7 = .ok (.bipush 8, 2) := by decide +kernel
theorem dX7_takeFact_9 : decode cX7_takeFact 9 = .ok (.if_icmp .lt 15, 3) := by decide +kernel
theorem dX7_takeFact_12 : decode cX7_takeFact 12 = .ok (.aload_n 0, 1) := by decide +kernel
theorem dX7_takeFact_13 : decode cX7_takeFact 13 = .ok (.iconst 3, 1) := by decide +kernel
theorem dX7_takeFact_14 : decode cX7_takeFact 14 = .ok (.aload_n 0, 1) := by decide +kernel
theorem dX7_takeFact_15 : decode cX7_takeFact 15 = .ok (.getfield 12, 3) := by decide +kernel
theorem dX7_takeFact_18 : decode cX7_takeFact 18 = .ok (.getfield 129, 3) := by decide +kernel
theorem dX7_takeFact_21 : decode cX7_takeFact 21 = .ok (.invokevirtual 87, 3) := by decide +kernel
theorem dX7_takeFact_24 : decode cX7_takeFact 24 = .ok (.aload_n 0, 1) := by decide +kernel
theorem dX7_takeFact_25 : decode cX7_takeFact 25 = .ok (.getfield 39, 3) := by decide +kernel
theorem dX7_takeFact_28 : decode cX7_takeFact 28 = .ok (.ifCond .ne 14, 3) := by decide +kernel
theorem dX7_takeFact_31 : decode cX7_takeFact 31 = .ok (.aload_n 0, 1) := by decide +kernel
theorem dX7_takeFact_32 : decode cX7_takeFact 32 = .ok (.getfield 35, 3) := by decide +kernel
theorem dX7_takeFact_35 : decode cX7_takeFact 35 = .ok (.aload_n 0, 1) := by decide +kernel
theorem dX7_takeFact_36 : decode cX7_takeFact 36 = .ok (.getfield 12, 3) := by decide +kernel
theorem dX7_takeFact_39 : decode cX7_takeFact 39 = .ok (.invokevirtual 190, 3) := by decide +kernel
theorem dX7_takeFact_42 : decode cX7_takeFact 42 = .ok (.return_, 1) := by decide +kernel
theorem dX8_init_0 : decode cX8_init 0 = .ok (.aload_n 0, 1) := by decide +kernel
theorem dX8_init_1 : decode cX8_init 1 = .ok (.invokespecial 3, 3) := by decide +kernel
theorem dX8_init_4 : decode cX8_init 4 = .ok (.aload_n 0, 1) := by decide +kernel
theorem dX8_init_5 : decode cX8_init 5 = .ok (.bipush 32, 2) := by decide +kernel
theorem dX8_init_7 : decode cX8_init 7 = .ok (.newarray .int, 2) := by decide +kernel
theorem dX8_init_9 : decode cX8_init 9 = .ok (.putfield 13, 3) := by decide +kernel
theorem dX8_init_12 : decode cX8_init 12 = .ok (.return_, 1) := by decide +kernel
theorem dX8_look_0 : decode cX8_look 0 = .ok (.iconst 0, 1) := by decide +kernel
theorem dX8_look_1 : decode cX8_look 1 = .ok (.istore 4, 2) := by decide +kernel
theorem dX8_look_3 : decode cX8_look 3 = .ok (.iload 4, 2) := by decide +kernel
theorem dX8_look_5 : decode cX8_look 5 = .ok (.iload_n 3, 1) := by decide +kernel
theorem dX8_look_6 : decode cX8_look 6 = .ok (.if_icmp .gt 58, 3) := by decide +kernel
theorem dX8_look_9 : decode cX8_look 9 = .ok (.iload 4, 2) := by decide +kernel
theorem dX8_look_11 : decode cX8_look 11 = .ok (.bipush 8, 2) := by decide +kernel
theorem dX8_look_13 : decode cX8_look 13 = .ok (.if_icmp .ge 51, 3) := by decide +kernel
theorem dX8_look_16 : decode cX8_look 16 = .ok (.iconst 0, 1) := by decide +kernel
theorem dX8_look_17 : decode cX8_look 17 = .ok (.istore 5, 2) := by decide +kernel
theorem dX8_look_19 : decode cX8_look 19 = .ok (.iload 5, 2) := by decide +kernel
theorem dX8_look_21 : decode cX8_look 21 = .ok (.aload_n 1, 1) := by decide +kernel
theorem dX8_look_22 : decode cX8_look 22 = .ok (.getfield 19, 3) := by decide +kernel
theorem dX8_look_25 : decode cX8_look 25 = .ok (.if_icmp .ge 33, 3) := by decide +kernel
theorem dX8_look_28 : decode cX8_look 28 = .ok (.aload_n 0, 1) := by decide +kernel
theorem dX8_look_29 : decode cX8_look 29 = .ok (.getfield 13, 3) := by decide +kernel
theorem dX8_look_32 : decode cX8_look 32 = .ok (.iload 4, 2) := by decide +kernel
theorem dX8_look_34 : decode cX8_look 34 = .ok (.iconst 4, 1) := by decide +kernel
theorem dX8_look_35 : decode cX8_look 35 = .ok (.imul, 1) := by decide +kernel
theorem dX8_look_36 : decode cX8_look 36 = .ok (.iload 5, 2) := by decide +kernel
theorem dX8_look_38 : decode cX8_look 38 = .ok (.iadd, 1) := by decide +kernel
theorem dX8_look_39 : decode cX8_look 39 = .ok (.aload_n 0, 1) := by decide +kernel
theorem dX8_look_40 : decode cX8_look 40 = .ok (.aload_n 1, 1) := by decide +kernel
theorem dX8_look_41 : decode cX8_look 41 = .ok (.aload_n 2, 1) := by decide +kernel
theorem dX8_look_42 : decode cX8_look 42 = .ok (.iload 4, 2) := by decide +kernel
theorem dX8_look_44 : decode cX8_look 44 = .ok (.iload 5, 2) := by decide +kernel
theorem dX8_look_46 : decode cX8_look 46 = .ok (.invokevirtual 23, 3) := by decide +kernel
theorem dX8_look_49 : decode cX8_look 49 = .ok (.invokestatic 27, 3) := by decide +kernel
theorem dX8_look_52 : decode cX8_look 52 = .ok (.iinc 5 1, 3) := by decide +kernel
theorem dX8_look_55 : decode cX8_look 55 = .ok (.goto (-36), 3) := by decide +kernel
theorem dX8_look_58 : decode cX8_look 58 = .ok (.iinc 4 1, 3) := by decide +kernel
theorem dX8_look_61 : decode cX8_look 61 = .ok (.goto (-58), 3) := by decide +kernel
theorem dX8_look_64 : decode cX8_look 64 = .ok (.return_, 1) := by decide +kernel
theorem dX8_held_0 : decode cX8_held 0 = .ok (.aload_n 0, 1) := by decide +kernel
theorem dX8_held_1 : decode cX8_held 1 = .ok (.getfield 13, 3) := by decide +kernel
theorem dX8_held_4 : decode cX8_held 4 = .ok (.iload_n 1, 1) := by decide +kernel
theorem dX8_held_5 : decode cX8_held 5 = .ok (.iconst 4, 1) := by decide +kernel
theorem dX8_held_6 : decode cX8_held 6 = .ok (.imul, 1) := by decide +kernel
theorem dX8_held_7 : decode cX8_held 7 = .ok (.iload_n 2, 1) := by decide +kernel
theorem dX8_held_8 : decode cX8_held 8 = .ok (.iadd, 1) := by decide +kernel
theorem dX8_held_9 : decode cX8_held 9 = .ok (.invokestatic 33, 3) := by decide +kernel
theorem dX8_held_12 : decode cX8_held 12 = .ok (.ireturn, 1) := by decide +kernel
theorem dX8_lookIn_0 : decode cX8_lookIn 0 = .ok (.aload_n 0, 1) := by decide +kernel
theorem dX8_lookIn_1 : decode cX8_lookIn 1 = .ok (.aload_n 2, 1) := by decide +kernel
theorem dX8_lookIn_2 : decode cX8_lookIn 2 = .ok (.iload_n 3, 1) := by decide +kernel
theorem dX8_lookIn_3 : decode cX8_lookIn 3 = .ok (.iconst 0, 1) := by decide +kernel
theorem dX8_lookIn_4 : decode cX8_lookIn 4 = .ok (.invokevirtual 37, 3) := by decide +kernel
theorem dX8_lookIn_7 : decode cX8_lookIn 7 = .ok (.iload 4, 2) := by decide +kernel
theorem dX8_lookIn_9 : decode cX8_lookIn 9 = .ok (.invokevirtual 41, 3) := by decide +kernel
theorem dX8_lookIn_12 : decode cX8_lookIn 12 = .ok (.istore 5, 2) := by decide +kernel
theorem dX8_lookIn_14 : decode cX8_lookIn 14 = .ok (.aload_n 0, 1) := by decide +kernel
theorem dX8_lookIn_15 : decode cX8_lookIn 15 = .ok (.aload_n 2, 1) := by decide +kernel
theorem dX8_lookIn_16 : decode cX8_lookIn 16 = .ok (.iload_n 3, 1) := by decide +kernel
theorem dX8_lookIn_17 : decode cX8_lookIn 17 = .ok (.iconst 1, 1) := by decide +kernel
theorem dX8_lookIn_18 : decode cX8_lookIn 18 = .ok (.invokevirtual 37, 3) := by decide +kernel
theorem dX8_lookIn_21 : decode cX8_lookIn 21 = .ok (.iload 4, 2) := by decide +kernel
theorem dX8_lookIn_23 : decode cX8_lookIn 23 = .ok (.invokevirtual 41, 3) := by decide +kernel
theorem dX8_lookIn_26 : decode cX8_lookIn 26 = .ok (.istore 6, 2) := by decide +kernel
theorem dX8_lookIn_28 : decode cX8_lookIn 28 = .ok (.aload_n 2, 1) := by decide +kernel
theorem dX8_lookIn_29 : decode cX8_lookIn 29 = .ok (.iload_n 3, 1) := by decide +kernel
theorem dX8_lookIn_30 : decode cX8_lookIn 30 = .ok (.invokevirtual 44, 3) := by decide +kernel
theorem dX8_lookIn_33 : decode cX8_lookIn 33 = .ok (.tableswitch 84 3 7 #[35, 47, 62, 72, 78], 35) := by decide +kernel
theorem dX8_lookIn_68 : decode cX8_lookIn 68 = .ok (.aload_n 1, 1) := by decide +kernel
theorem dX8_lookIn_69 : decode cX8_lookIn 69 = .ok (.iload 4, 2) := by decide +kernel
theorem dX8_lookIn_71 : decode cX8_lookIn 71 = .ok (.invokevirtual 48, 3) := by decide +kernel
theorem dX8_lookIn_74 : decode cX8_lookIn 74 = .ok (.iload 5, 2) := by decide +kernel
theorem dX8_lookIn_76 : decode cX8_lookIn 76 = .ok (.iconst (-1), 1) := by decide +kernel
theorem dX8_lookIn_77 : decode cX8_lookIn 77 = .ok (.ixor, 1) := by decide +kernel
theorem dX8_lookIn_78 : decode cX8_lookIn 78 = .ok (.iand, 1) := by decide +kernel
theorem dX8_lookIn_79 : decode cX8_lookIn 79 = .ok (.ireturn, 1) := by decide +kernel
theorem dX8_lookIn_80 : decode cX8_lookIn 80 = .ok (.aload_n 1, 1) := by decide +kernel
theorem dX8_lookIn_81 : decode cX8_lookIn 81 = .ok (.iload 4, 2) := by decide +kernel
theorem dX8_lookIn_83 : decode cX8_lookIn 83 = .ok (.invokevirtual 48, 3) := by decide +kernel
theorem dX8_lookIn_86 : decode cX8_lookIn 86 = .ok (.iload 5, 2) := by decide +kernel
theorem dX8_lookIn_88 : decode cX8_lookIn 88 = .ok (.iload 5, 2) := by decide +kernel
theorem dX8_lookIn_90 : decode cX8_lookIn 90 = .ok (.ineg, 1) := by decide +kernel
theorem dX8_lookIn_91 : decode cX8_lookIn 91 = .ok (.iand, 1) := by decide +kernel
theorem dX8_lookIn_92 : decode cX8_lookIn 92 = .ok (.ineg, 1) := by decide +kernel
theorem dX8_lookIn_93 : decode cX8_lookIn 93 = .ok (.iand, 1) := by decide +kernel
theorem dX8_lookIn_94 : decode cX8_lookIn 94 = .ok (.ireturn, 1) := by decide +kernel
theorem dX8_lookIn_95 : decode cX8_lookIn 95 = .ok (.iload 5, 2) := by decide +kernel
theorem dX8_lookIn_97 : decode cX8_lookIn 97 = .ok (.iload 5, 2) := by decide +kernel
theorem dX8_lookIn_99 : decode cX8_lookIn 99 = .ok (.iconst 1, 1) := by decide +kernel
theorem dX8_lookIn_100 : decode cX8_lookIn 100 = .ok (.ishl, 1) := by decide +kernel
theorem dX8_lookIn_101 : decode cX8_lookIn 101 = .ok (.iconst (-1), 1) := by decide +kernel
theorem dX8_lookIn_102 : decode cX8_lookIn 102 = .ok (.ixor, 1) := by decide +kernel
theorem dX8_lookIn_103 : decode cX8_lookIn 103 = .ok (.iand, 1) := by decide +kernel
theorem dX8_lookIn_104 : decode cX8_lookIn 104 = .ok (.ireturn, 1) := by decide +kernel
theorem dX8_lookIn_105 : decode cX8_lookIn 105 = .ok (.iload 5, 2) := by decide +kernel
theorem dX8_lookIn_107 : decode cX8_lookIn 107 = .ok (.iload 6, 2) := by decide +kernel
theorem dX8_lookIn_109 : decode cX8_lookIn 109 = .ok (.iand, 1) := by decide +kernel
theorem dX8_lookIn_110 : decode cX8_lookIn 110 = .ok (.ireturn, 1) := by decide +kernel
theorem dX8_lookIn_111 : decode cX8_lookIn 111 = .ok (.iload 5, 2) := by decide +kernel
theorem dX8_lookIn_113 : decode cX8_lookIn 113 = .ok (.iload 6, 2) := by decide +kernel
theorem dX8_lookIn_115 : decode cX8_lookIn 115 = .ok (.ior, 1) := by decide +kernel
theorem dX8_lookIn_116 : decode cX8_lookIn 116 = .ok (.ireturn, 1) := by decide +kernel
theorem dX8_lookIn_117 : decode cX8_lookIn 117 = .ok (.aload_n 0, 1) := by decide +kernel
theorem dX8_lookIn_118 : decode cX8_lookIn 118 = .ok (.aload_n 1, 1) := by decide +kernel
theorem dX8_lookIn_119 : decode cX8_lookIn 119 = .ok (.aload_n 2, 1) := by decide +kernel
theorem dX8_lookIn_120 : decode cX8_lookIn 120 = .ok (.iload_n 3, 1) := by decide +kernel
theorem dX8_lookIn_121 : decode cX8_lookIn 121 = .ok (.iload 4, 2) := by decide +kernel
theorem dX8_lookIn_123 : decode cX8_lookIn 123 = .ok (.invokevirtual 51, 3) := by decide +kernel
theorem dX8_lookIn_126 : decode cX8_lookIn 126 = .ok (.ireturn, 1) := by decide +kernel
theorem dX8_lookAtWords_0 : decode cX8_lookAtWords 0 = .ok (.aload_n 2, 1) := by decide +kernel
theorem dX8_lookAtWords_1 : decode cX8_lookAtWords 1 = .ok (.iload_n 3, 1) := by decide +kernel
theorem dX8_lookAtWords_2 : decode cX8_lookAtWords 2 = .ok (.invokevirtual 44, 3) := by decide +kernel
theorem dX8_lookAtWords_5 : decode cX8_lookAtWords 5 = .ok (.istore 5, 2) := by decide +kernel
theorem dX8_lookAtWords_7 : decode cX8_lookAtWords 7 = .ok (.iconst 0, 1) := by decide +kernel
theorem dX8_lookAtWords_8 : decode cX8_lookAtWords 8 = .ok (.istore 6, 2) := by decide +kernel
theorem dX8_lookAtWords_10 : decode cX8_lookAtWords 10 = .ok (.iconst 0, 1) := by decide +kernel
theorem dX8_lookAtWords_11 : decode cX8_lookAtWords 11 = .ok (.istore 7, 2) := by decide +kernel
theorem dX8_lookAtWords_13 : decode cX8_lookAtWords 13 = .ok (.iload 7, 2) := by decide +kernel
theorem dX8_lookAtWords_15 : decode cX8_lookAtWords 15 = .ok (.aload_n 1, 1) := by decide +kernel
theorem dX8_lookAtWords_16 : decode cX8_lookAtWords 16 = .ok (.iload 4, 2) := by decide +kernel
theorem dX8_lookAtWords_18 : decode cX8_lookAtWords 18 = .ok (.invokevirtual 54, 3) := by decide +kernel
theorem dX8_lookAtWords_21 : decode cX8_lookAtWords 21 = .ok (.if_icmp .ge 87, 3) := by decide +kernel
theorem dX8_lookAtWords_24 : decode cX8_lookAtWords 24 = .ok (.iload 5, 2) := by decide +kernel
theorem dX8_lookAtWords_26 : decode cX8_lookAtWords 26 = .ok (.ifCond .ne 25, 3) := by decide +kernel
theorem dX8_lookAtWords_29 : decode cX8_lookAtWords 29 = .ok (.aload_n 0, 1) := by decide +kernel
theorem dX8_lookAtWords_30 : decode cX8_lookAtWords 30 = .ok (.aload_n 1, 1) := by decide +kernel
theorem dX8_lookAtWords_31 : decode cX8_lookAtWords 31 = .ok (.aload_n 2, 1) := by decide +kernel
theorem dX8_lookAtWords_32 : decode cX8_lookAtWords 32 = .ok (.iload_n 3, 1) := by decide +kernel
theorem dX8_lookAtWords_33 : decode cX8_lookAtWords 33 = .ok (.iload 4, 2) := by decide +kernel
theorem dX8_lookAtWords_35 : decode cX8_lookAtWords 35 = .ok (.iload 7, 2) := by decide +kernel
theorem dX8_lookAtWords_37 : decode cX8_lookAtWords 37 = .ok (.invokevirtual 57, 3) := by decide +kernel
theorem dX8_lookAtWords_40 : decode cX8_lookAtWords 40 = .ok (.ifCond .le 7, 3) := by decide +kernel
theorem dX8_lookAtWords_43 : decode cX8_lookAtWords 43 = .ok (.iconst 1, 1) := by decide +kernel
theorem dX8_lookAtWords_44 : decode cX8_lookAtWords 44 = .ok (.goto 38, 3) := by decide +kernel
theorem dX8_lookAtWords_47 : decode cX8_lookAtWords 47 = .ok (.iconst 0, 1) := by decide +kernel
theorem dX8_lookAtWords_48 : decode cX8_lookAtWords 48 = .ok (.goto 34, 3) := by decide +kernel
theorem dX8_lookAtWords_51 : decode cX8_lookAtWords 51 = .ok (.iload 5, 2) := by decide +kernel
theorem dX8_lookAtWords_53 : decode cX8_lookAtWords 53 = .ok (.iconst 1, 1) := by decide +kernel
theorem dX8_lookAtWords_54 : decode cX8_lookAtWords 54 = .ok (.if_icmp .ne 17, 3) := by decide +kernel
theorem dX8_lookAtWords_57 : decode cX8_lookAtWords 57 = .ok (.aload_n 0, 1) := by decide +kernel
theorem dX8_lookAtWords_58 : decode cX8_lookAtWords 58 = .ok (.aload_n 1, 1) := by decide +kernel
theorem dX8_lookAtWords_59 : decode cX8_lookAtWords 59 = .ok (.aload_n 2, 1) := by decide +kernel
theorem dX8_lookAtWords_60 : decode cX8_lookAtWords 60 = .ok (.iload_n 3, 1) := by decide +kernel
theorem dX8_lookAtWords_61 : decode cX8_lookAtWords 61 = .ok (.iload 4, 2) := by decide +kernel
theorem dX8_lookAtWords_63 : decode cX8_lookAtWords 63 = .ok (.iload 7, 2) := by decide +kernel
theorem dX8_lookAtWords_65 : decode cX8_lookAtWords 65 = .ok (.invokevirtual 63, 3) := by decide +kernel
theorem dX8_lookAtWords_68 : decode cX8_lookAtWords 68 = .ok (.goto 14, 3) := by decide +kernel
theorem dX8_lookAtWords_71 : decode cX8_lookAtWords 71 = .ok (.aload_n 0, 1) := by decide +kernel
theorem dX8_lookAtWords_72 : decode cX8_lookAtWords 72 = .ok (.aload_n 1, 1) := by decide +kernel
theorem dX8_lookAtWords_73 : decode cX8_lookAtWords 73 = .ok (.aload_n 2, 1) := by decide +kernel
theorem dX8_lookAtWords_74 : decode cX8_lookAtWords 74 = .ok (.iload_n 3, 1) := by decide +kernel
theorem dX8_lookAtWords_75 : decode cX8_lookAtWords 75 = .ok (.iload 4, 2) := by decide +kernel
theorem dX8_lookAtWords_77 : decode cX8_lookAtWords 77 = .ok (.iload 7, 2) := by decide +kernel
theorem dX8_lookAtWords_79 : decode cX8_lookAtWords 79 = .ok (.invokevirtual 67, 3) := by decide +kernel
theorem dX8_lookAtWords_82 : decode cX8_lookAtWords 82 = .ok (.istore 8, 2) := by decide +kernel
theorem dX8_lookAtWords_84 : decode cX8_lookAtWords 84 = .ok (.iload 6, 2) := by decide +kernel
theorem dX8_lookAtWords_86 : decode cX8_lookAtWords 86 = .ok (.iload 8, 2) := by decide +kernel
theorem dX8_lookAtWords_88 : decode cX8_lookAtWords 88 = .ok (.ifCond .eq 10, 3) := by decide +kernel
theorem dX8_lookAtWords_91 : decode cX8_lookAtWords 91 = .ok (.iconst 1, 1) := by decide +kernel
theorem dX8_lookAtWords_92 : decode cX8_lookAtWords 92 = .ok (.iload 7, 2) := by decide +kernel
theorem dX8_lookAtWords_94 : decode cX8_lookAtWords 94 = .ok (.ishl, 1) := by decide +kernel
theorem dX8_lookAtWords_95 : decode cX8_lookAtWords 95 = .ok (.goto 4, 3) := by decide +kernel
theorem dX8_lookAtWords_98 : decode cX8_lookAtWords 98 = .ok (.iconst 0, 1) := by decide +kernel
theorem dX8_lookAtWords_99 : decode cX8_lookAtWords 99 = .ok (.ior, 1) := by decide +kernel
theorem dX8_lookAtWords_100 : decode cX8_lookAtWords 100 = .ok (.istore 6, 2) := by decide +kernel
theorem dX8_lookAtWords_102 : decode cX8_lookAtWords 102 = .ok (.iinc 7 1, 3) := by decide +kernel
theorem dX8_lookAtWords_105 : decode cX8_lookAtWords 105 = .ok (.goto (-92), 3) := by decide +kernel
theorem dX8_lookAtWords_108 : decode cX8_lookAtWords 108 = .ok (.iload 6, 2) := by decide +kernel
theorem dX8_lookAtWords_110 : decode cX8_lookAtWords 110 = .ok (.ireturn, 1) := by decide +kernel
theorem dX8_areMany_0 : decode cX8_areMany 0 = .ok (.aload_n 1, 1) := by decide +kernel
theorem dX8_areMany_1 : decode cX8_areMany 1 = .ok (.aload_n 2, 1) := by decide +kernel
theorem dX8_areMany_2 : decode cX8_areMany 2 = .ok (.iload_n 3, 1) := by decide +kernel
theorem dX8_areMany_3 : decode cX8_areMany 3 = .ok (.iconst 0, 1) := by decide +kernel
theorem dX8_areMany_4 : decode cX8_areMany 4 = .ok (.invokevirtual 70, 3) := by decide +kernel
theorem dX8_areMany_7 : decode cX8_areMany 7 = .ok (.iload 4, 2) := by decide +kernel
theorem dX8_areMany_9 : decode cX8_areMany 9 = .ok (.iload 5, 2) := by decide +kernel
theorem dX8_areMany_11 : decode cX8_areMany 11 = .ok (.invokestatic 73, 3) := by decide +kernel
theorem dX8_areMany_14 : decode cX8_areMany 14 = .ok (.aload_n 2, 1) := by decide +kernel
theorem dX8_areMany_15 : decode cX8_areMany 15 = .ok (.iload_n 3, 1) := by decide +kernel
theorem dX8_areMany_16 : decode cX8_areMany 16 = .ok (.iconst 0, 1) := by decide +kernel
theorem dX8_areMany_17 : decode cX8_areMany 17 = .ok (.invokevirtual 37, 3) := by decide +kernel
theorem dX8_areMany_20 : decode cX8_areMany 20 = .ok (.if_icmp .lt 7, 3) := by decide +kernel
theorem dX8_areMany_23 : decode cX8_areMany 23 = .ok (.iconst 1, 1) := by decide +kernel
theorem dX8_areMany_24 : decode cX8_areMany 24 = .ok (.goto 4, 3) := by decide +kernel
theorem dX8_areMany_27 : decode cX8_areMany 27 = .ok (.iconst 0, 1) := by decide +kernel
theorem dX8_areMany_28 : decode cX8_areMany 28 = .ok (.ireturn, 1) := by decide +kernel
theorem dX8_beginnings_0 : decode cX8_beginnings 0 = .ok (.aload_n 2, 1) := by decide +kernel
theorem dX8_beginnings_1 : decode cX8_beginnings 1 = .ok (.iload_n 3, 1) := by decide +kernel
theorem dX8_beginnings_2 : decode cX8_beginnings 2 = .ok (.invokevirtual 79, 3) := by decide +kernel
theorem dX8_beginnings_5 : decode cX8_beginnings 5 = .ok (.istore 6, 2) := by decide +kernel
theorem dX8_beginnings_7 : decode cX8_beginnings 7 = .ok (.iconst 0, 1) := by decide +kernel
theorem dX8_beginnings_8 : decode cX8_beginnings 8 = .ok (.istore 7, 2) := by decide +kernel
theorem dX8_beginnings_10 : decode cX8_beginnings 10 = .ok (.iconst 0, 1) := by decide +kernel
theorem dX8_beginnings_11 : decode cX8_beginnings 11 = .ok (.istore 8, 2) := by decide +kernel
theorem dX8_beginnings_13 : decode cX8_beginnings 13 = .ok (.iload 8, 2) := by decide +kernel
theorem dX8_beginnings_15 : decode cX8_beginnings 15 = .ok (.iload 6, 2) := by decide +kernel
theorem dX8_beginnings_17 : decode cX8_beginnings 17 = .ok (.iadd, 1) := by decide +kernel
theorem dX8_beginnings_18 : decode cX8_beginnings 18 = .ok (.aload_n 1, 1) := by decide +kernel
theorem dX8_beginnings_19 : decode cX8_beginnings 19 = .ok (.iload 4, 2) := by decide +kernel
theorem dX8_beginnings_21 : decode cX8_beginnings 21 = .ok (.iload 5, 2) := by decide +kernel
theorem dX8_beginnings_23 : decode cX8_beginnings 23 = .ok (.invokevirtual 82, 3) := by decide +kernel
theorem dX8_beginnings_26 : decode cX8_beginnings 26 = .ok (.if_icmp .gt 65, 3) := by decide +kernel
theorem dX8_beginnings_29 : decode cX8_beginnings 29 = .ok (.iconst 0, 1) := by decide +kernel
theorem dX8_beginnings_30 : decode cX8_beginnings 30 = .ok (.istore 9, 2) := by decide +kernel
theorem dX8_beginnings_32 : decode cX8_beginnings 32 = .ok (.iload 9, 2) := by decide +kernel
theorem dX8_beginnings_34 : decode cX8_beginnings 34 = .ok (.iload 6, 2) := by decide +kernel
theorem dX8_beginnings_36 : decode cX8_beginnings 36 = .ok (.if_icmp .ge 32, 3) := by decide +kernel
theorem dX8_beginnings_39 : decode cX8_beginnings 39 = .ok (.aload_n 1, 1) := by decide +kernel
theorem dX8_beginnings_40 : decode cX8_beginnings 40 = .ok (.iload 4, 2) := by decide +kernel
theorem dX8_beginnings_42 : decode cX8_beginnings 42 = .ok (.iload 5, 2) := by decide +kernel
theorem dX8_beginnings_44 : decode cX8_beginnings 44 = .ok (.iload 8, 2) := by decide +kernel
theorem dX8_beginnings_46 : decode cX8_beginnings 46 = .ok (.iload 9, 2) := by decide +kernel
theorem dX8_beginnings_48 : decode cX8_beginnings 48 = .ok (.iadd, 1) := by decide +kernel
theorem dX8_beginnings_49 : decode cX8_beginnings 49 = .ok (.invokevirtual 85, 3) := by decide +kernel
theorem dX8_beginnings_52 : decode cX8_beginnings 52 = .ok (.aload_n 2, 1) := by decide +kernel
theorem dX8_beginnings_53 : decode cX8_beginnings 53 = .ok (.iload_n 3, 1) := by decide +kernel
theorem dX8_beginnings_54 : decode cX8_beginnings 54 = .ok (.iload 9, 2) := by decide +kernel
theorem dX8_beginnings_56 : decode cX8_beginnings 56 = .ok (.invokevirtual 70, 3) := by decide +kernel
theorem dX8_beginnings_59 : decode cX8_beginnings 59 = .ok (.if_icmp .ne 9, 3) := by decide +kernel
theorem dX8_beginnings_62 : decode cX8_beginnings 62 = .ok (.iinc 9 1, 3) := by decide +kernel
theorem dX8_beginnings_65 : decode cX8_beginnings 65 = .ok (.goto (-33), 3) := by decide +kernel
theorem dX8_beginnings_68 : decode cX8_beginnings 68 = .ok (.iload 7, 2) := by decide +kernel
theorem dX8_beginnings_70 : decode cX8_beginnings 70 = .ok (.iload 9, 2) := by decide +kernel
theorem dX8_beginnings_72 : decode cX8_beginnings 72 = .ok (.iload 6, 2) := by decide +kernel
theorem dX8_beginnings_74 : decode cX8_beginnings 74 = .ok (.if_icmp .ne 7, 3) := by decide +kernel
theorem dX8_beginnings_77 : decode cX8_beginnings 77 = .ok (.iconst 1, 1) := by decide +kernel
theorem dX8_beginnings_78 : decode cX8_beginnings 78 = .ok (.goto 4, 3) := by decide +kernel
theorem dX8_beginnings_81 : decode cX8_beginnings 81 = .ok (.iconst 0, 1) := by decide +kernel
theorem dX8_beginnings_82 : decode cX8_beginnings 82 = .ok (.iadd, 1) := by decide +kernel
theorem dX8_beginnings_83 : decode cX8_beginnings 83 = .ok (.istore 7, 2) := by decide +kernel
theorem dX8_beginnings_85 : decode cX8_beginnings 85 = .ok (.iinc 8 1, 3) := by decide +kernel
theorem dX8_beginnings_88 : decode cX8_beginnings 88 = .ok (.goto (-75), 3) := by decide +kernel
theorem dX8_beginnings_91 : decode cX8_beginnings 91 = .ok (.iload 7, 2) := by decide +kernel
theorem dX8_beginnings_93 : decode cX8_beginnings 93 = .ok (.ireturn, 1) := by decide +kernel
theorem dX8_areNear_0 : decode cX8_areNear 0 = .ok (.aload_n 1, 1) := by decide +kernel
theorem dX8_areNear_1 : decode cX8_areNear 1 = .ok (.iload 4, 2) := by decide +kernel
theorem dX8_areNear_3 : decode cX8_areNear 3 = .ok (.iload 5, 2) := by decide +kernel
theorem dX8_areNear_5 : decode cX8_areNear 5 = .ok (.invokevirtual 82, 3) := by decide +kernel
theorem dX8_areNear_8 : decode cX8_areNear 8 = .ok (.istore 6, 2) := by decide +kernel
theorem dX8_areNear_10 : decode cX8_areNear 10 = .ok (.iconst 0, 1) := by decide +kernel
theorem dX8_areNear_11 : decode cX8_areNear 11 = .ok (.istore 7, 2) := by decide +kernel
theorem dX8_areNear_13 : decode cX8_areNear 13 = .ok (.iload 7, 2) := by decide +kernel
theorem dX8_areNear_15 : decode cX8_areNear 15 = .ok (.iload 6, 2) := by decide +kernel
theorem dX8_areNear_17 : decode cX8_areNear 17 = .ok (.if_icmp .ge 89, 3) := by decide +kernel
theorem dX8_areNear_20 : decode cX8_areNear 20 = .ok (.iconst 0, 1) := by decide +kernel
theorem dX8_areNear_21 : decode cX8_areNear 21 = .ok (.istore 8, 2) := by decide +kernel
theorem dX8_areNear_23 : decode cX8_areNear 23 = .ok (.iload 8, 2) := by decide +kernel
theorem dX8_areNear_25 : decode cX8_areNear 25 = .ok (.iload 6, 2) := by decide +kernel
theorem dX8_areNear_27 : decode cX8_areNear 27 = .ok (.if_icmp .ge 73, 3) := by decide +kernel
theorem dX8_areNear_30 : decode cX8_areNear 30 = .ok (.iload 7, 2) := by decide +kernel
theorem dX8_areNear_32 : decode cX8_areNear 32 = .ok (.iload 8, 2) := by decide +kernel
theorem dX8_areNear_34 : decode cX8_areNear 34 = .ok (.if_icmp .eq 60, 3) := by decide +kernel
theorem dX8_areNear_37 : decode cX8_areNear 37 = .ok (.iload 7, 2) := by decide +kernel
theorem dX8_areNear_39 : decode cX8_areNear 39 = .ok (.iload 8, 2) := by decide +kernel
theorem dX8_areNear_41 : decode cX8_areNear 41 = .ok (.isub, 1) := by decide +kernel
theorem dX8_areNear_42 : decode cX8_areNear 42 = .ok (.invokestatic 89, 3) := by decide +kernel
theorem dX8_areNear_45 : decode cX8_areNear 45 = .ok (.aload_n 2, 1) := by decide +kernel
theorem dX8_areNear_46 : decode cX8_areNear 46 = .ok (.iload_n 3, 1) := by decide +kernel
theorem dX8_areNear_47 : decode cX8_areNear 47 = .ok (.iconst 0, 1) := by decide +kernel
theorem dX8_areNear_48 : decode cX8_areNear 48 = .ok (.invokevirtual 37, 3) := by decide +kernel
theorem dX8_areNear_51 : decode cX8_areNear 51 = .ok (.if_icmp .gt 43, 3) := by decide +kernel
theorem dX8_areNear_54 : decode cX8_areNear 54 = .ok (.aload_n 1, 1) := by decide +kernel
theorem dX8_areNear_55 : decode cX8_areNear 55 = .ok (.iload 4, 2) := by decide +kernel
theorem dX8_areNear_57 : decode cX8_areNear 57 = .ok (.iload 5, 2) := by decide +kernel
theorem dX8_areNear_59 : decode cX8_areNear 59 = .ok (.iload 7, 2) := by decide +kernel
theorem dX8_areNear_61 : decode cX8_areNear 61 = .ok (.invokevirtual 85, 3) := by decide +kernel
theorem dX8_areNear_64 : decode cX8_areNear 64 = .ok (.aload_n 2, 1) := by decide +kernel
theorem dX8_areNear_65 : decode cX8_areNear 65 = .ok (.iload_n 3, 1) := by decide +kernel
theorem dX8_areNear_66 : decode cX8_areNear 66 = .ok (.iconst 0, 1) := by decide +kernel
theorem dX8_areNear_67 : decode cX8_areNear 67 = .ok (.invokevirtual 70, 3) := by decide +kernel
theorem dX8_areNear_70 : decode cX8_areNear 70 = .ok (.if_icmp .ne 24, 3) := by decide +kernel
theorem dX8_areNear_73 : decode cX8_areNear 73 = .ok (.aload_n 1, 1) := by decide +kernel
theorem dX8_areNear_74 : decode cX8_areNear 74 = .ok (.iload 4, 2) := by decide +kernel
theorem dX8_areNear_76 : decode cX8_areNear 76 = .ok (.iload 5, 2) := by decide +kernel
theorem dX8_areNear_78 : decode cX8_areNear 78 = .ok (.iload 8, 2) := by decide +kernel
theorem dX8_areNear_80 : decode cX8_areNear 80 = .ok (.invokevirtual 85, 3) := by decide +kernel
theorem dX8_areNear_83 : decode cX8_areNear 83 = .ok (.aload_n 2, 1) := by decide +kernel
theorem dX8_areNear_84 : decode cX8_areNear 84 = .ok (.iload_n 3, 1) := by decide +kernel
theorem dX8_areNear_85 : decode cX8_areNear 85 = .ok (.iconst 1, 1) := by decide +kernel
theorem dX8_areNear_86 : decode cX8_areNear 86 = .ok (.invokevirtual 70, 3) := by decide +kernel
theorem dX8_areNear_89 : decode cX8_areNear 89 = .ok (.if_icmp .ne 5, 3) := by decide +kernel
theorem dX8_areNear_92 : decode cX8_areNear 92 = .ok (.iconst 1, 1) := by decide +kernel
theorem dX8_areNear_93 : decode cX8_areNear 93 = .ok (.ireturn, 1) := by decide +kernel
theorem dX8_areNear_94 : decode cX8_areNear 94 = .ok (.iinc 8 1, 3) := by decide +kernel
theorem dX8_areNear_97 : decode cX8_areNear 97 = .ok (.goto (-74), 3) := by decide +kernel
theorem dX8_areNear_100 : decode cX8_areNear 100 = .ok (.iinc 7 1, 3) := by decide +kernel
theorem dX8_areNear_103 : decode cX8_areNear 103 = .ok (.goto (-90), 3) := by decide +kernel
theorem dX8_areNear_106 : decode cX8_areNear 106 = .ok (.iconst 0, 1) := by decide +kernel
theorem dX8_areNear_107 : decode cX8_areNear 107 = .ok (.ireturn, 1) := by decide +kernel
theorem dX8_everIn_0 : decode cX8_everIn 0 = .ok (.iconst 0, 1) := by decide +kernel
theorem dX8_everIn_1 : decode cX8_everIn 1 = .ok (.istore_n 3, 1) := by decide +kernel
theorem dX8_everIn_2 : decode cX8_everIn 2 = .ok (.iconst 0, 1) := by decide +kernel
theorem dX8_everIn_3 : decode cX8_everIn 3 = .ok (.istore 4, 2) := by decide +kernel
theorem dX8_everIn_5 : decode cX8_everIn 5 = .ok (.iload 4, 2) := by decide +kernel
theorem dX8_everIn_7 : decode cX8_everIn 7 = .ok (.aload_n 1, 1) := by decide +kernel
theorem dX8_everIn_8 : decode cX8_everIn 8 = .ok (.getfield 19, 3) := by decide +kernel
theorem dX8_everIn_11 : decode cX8_everIn 11 = .ok (.if_icmp .ge 30, 3) := by decide +kernel
theorem dX8_everIn_14 : decode cX8_everIn 14 = .ok (.iload_n 3, 1) := by decide +kernel
theorem dX8_everIn_15 : decode cX8_everIn 15 = .ok (.aload_n 0, 1) := by decide +kernel
theorem dX8_everIn_16 : decode cX8_everIn 16 = .ok (.iload_n 2, 1) := by decide +kernel
theorem dX8_everIn_17 : decode cX8_everIn 17 = .ok (.iload 4, 2) := by decide +kernel
theorem dX8_everIn_19 : decode cX8_everIn 19 = .ok (.invokevirtual 41, 3) := by decide +kernel
theorem dX8_everIn_22 : decode cX8_everIn 22 = .ok (.ifCond .eq 10, 3) := by decide +kernel
theorem dX8_everIn_25 : decode cX8_everIn 25 = .ok (.iconst 1, 1) := by decide +kernel
theorem dX8_everIn_26 : decode cX8_everIn 26 = .ok (.iload 4, 2) := by decide +kernel
theorem dX8_everIn_28 : decode cX8_everIn 28 = .ok (.ishl, 1) := by decide +kernel
theorem dX8_everIn_29 : decode cX8_everIn 29 = .ok (.goto 4, 3) := by decide +kernel
theorem dX8_everIn_32 : decode cX8_everIn 32 = .ok (.iconst 0, 1) := by decide +kernel
theorem dX8_everIn_33 : decode cX8_everIn 33 = .ok (.ior, 1) := by decide +kernel
theorem dX8_everIn_34 : decode cX8_everIn 34 = .ok (.istore_n 3, 1) := by decide +kernel
theorem dX8_everIn_35 : decode cX8_everIn 35 = .ok (.iinc 4 1, 3) := by decide +kernel
theorem dX8_everIn_38 : decode cX8_everIn 38 = .ok (.goto (-33), 3) := by decide +kernel
theorem dX8_everIn_41 : decode cX8_everIn 41 = .ok (.iload_n 3, 1) := by decide +kernel
theorem dX8_everIn_42 : decode cX8_everIn 42 = .ok (.ireturn, 1) := by decide +kernel
theorem dX8_alwaysIn_0 : decode cX8_alwaysIn 0 = .ok (.iconst 0, 1) := by decide +kernel
theorem dX8_alwaysIn_1 : decode cX8_alwaysIn 1 = .ok (.istore_n 3, 1) := by decide +kernel
theorem dX8_alwaysIn_2 : decode cX8_alwaysIn 2 = .ok (.iconst 0, 1) := by decide +kernel
theorem dX8_alwaysIn_3 : decode cX8_alwaysIn 3 = .ok (.istore 4, 2) := by decide +kernel
theorem dX8_alwaysIn_5 : decode cX8_alwaysIn 5 = .ok (.iload 4, 2) := by decide +kernel
theorem dX8_alwaysIn_7 : decode cX8_alwaysIn 7 = .ok (.aload_n 1, 1) := by decide +kernel
theorem dX8_alwaysIn_8 : decode cX8_alwaysIn 8 = .ok (.getfield 19, 3) := by decide +kernel
theorem dX8_alwaysIn_11 : decode cX8_alwaysIn 11 = .ok (.if_icmp .ge 36, 3) := by decide +kernel
theorem dX8_alwaysIn_14 : decode cX8_alwaysIn 14 = .ok (.iload_n 3, 1) := by decide +kernel
theorem dX8_alwaysIn_15 : decode cX8_alwaysIn 15 = .ok (.aload_n 0, 1) := by decide +kernel
theorem dX8_alwaysIn_16 : decode cX8_alwaysIn 16 = .ok (.iload_n 2, 1) := by decide +kernel
theorem dX8_alwaysIn_17 : decode cX8_alwaysIn 17 = .ok (.iload 4, 2) := by decide +kernel
theorem dX8_alwaysIn_19 : decode cX8_alwaysIn 19 = .ok (.invokevirtual 41, 3) := by decide +kernel
theorem dX8_alwaysIn_22 : decode cX8_alwaysIn 22 = .ok (.aload_n 1, 1) := by decide +kernel
theorem dX8_alwaysIn_23 : decode cX8_alwaysIn 23 = .ok (.iload 4, 2) := by decide +kernel
theorem dX8_alwaysIn_25 : decode cX8_alwaysIn 25 = .ok (.invokevirtual 48, 3) := by decide +kernel
theorem dX8_alwaysIn_28 : decode cX8_alwaysIn 28 = .ok (.if_icmp .ne 10, 3) := by decide +kernel
theorem dX8_alwaysIn_31 : decode cX8_alwaysIn 31 = .ok (.iconst 1, 1) := by decide +kernel
theorem dX8_alwaysIn_32 : decode cX8_alwaysIn 32 = .ok (.iload 4, 2) := by decide +kernel
theorem dX8_alwaysIn_34 : decode cX8_alwaysIn 34 = .ok (.ishl, 1) := by decide +kernel
theorem dX8_alwaysIn_35 : decode cX8_alwaysIn 35 = .ok (.goto 4, 3) := by decide +kernel
theorem dX8_alwaysIn_38 : decode cX8_alwaysIn 38 = .ok (.iconst 0, 1) := by decide +kernel
theorem dX8_alwaysIn_39 : decode cX8_alwaysIn 39 = .ok (.ior, 1) := by decide +kernel
theorem dX8_alwaysIn_40 : decode cX8_alwaysIn 40 = .ok (.istore_n 3, 1) := by decide +kernel
theorem dX8_alwaysIn_41 : decode cX8_alwaysIn 41 = .ok (.iinc 4 1, 3) := by decide +kernel
theorem dX8_alwaysIn_44 : decode cX8_alwaysIn 44 = .ok (.goto (-39), 3) := by decide +kernel
theorem dX8_alwaysIn_47 : decode cX8_alwaysIn 47 = .ok (.iload_n 3, 1) := by decide +kernel
theorem dX8_alwaysIn_48 : decode cX8_alwaysIn 48 = .ok (.ireturn, 1) := by decide +kernel
theorem dX8_versionsHeld_0 : decode cX8_versionsHeld 0 = .ok (.iconst 0, 1) := by decide +kernel
theorem dX8_versionsHeld_1 : decode cX8_versionsHeld 1 = .ok (.istore_n 3, 1) := by decide +kernel
theorem dX8_versionsHeld_2 : decode cX8_versionsHeld 2 = .ok (.iconst 0, 1) := by decide +kernel
theorem dX8_versionsHeld_3 : decode cX8_versionsHeld 3 = .ok (.istore 4, 2) := by decide +kernel
theorem dX8_versionsHeld_5 : decode cX8_versionsHeld 5 = .ok (.iload 4, 2) := by decide +kernel
theorem dX8_versionsHeld_7 : decode cX8_versionsHeld 7 = .ok (.aload_n 1, 1) := by decide +kernel
theorem dX8_versionsHeld_8 : decode cX8_versionsHeld 8 = .ok (.getfield 19, 3) := by decide +kernel
theorem dX8_versionsHeld_11 : decode cX8_versionsHeld 11 = .ok (.if_icmp .ge 22, 3) := by decide +kernel
theorem dX8_versionsHeld_14 : decode cX8_versionsHeld 14 = .ok (.iload_n 3, 1) := by decide +kernel
theorem dX8_versionsHeld_15 : decode cX8_versionsHeld 15 = .ok (.aload_n 0, 1) := by decide +kernel
theorem dX8_versionsHeld_16 : decode cX8_versionsHeld 16 = .ok (.iload_n 2, 1) := by decide +kernel
theorem dX8_versionsHeld_17 : decode cX8_versionsHeld 17 = .ok (.iload 4, 2) := by decide +kernel
theorem dX8_versionsHeld_19 : decode cX8_versionsHeld 19 = .ok (.invokevirtual 41, 3) := by decide +kernel
theorem dX8_versionsHeld_22 : decode cX8_versionsHeld 22 = .ok (.invokestatic 94, 3) := by decide +kernel
theorem dX8_versionsHeld_25 : decode cX8_versionsHeld 25 = .ok (.iadd, 1) := by decide +kernel
theorem dX8_versionsHeld_26 : decode cX8_versionsHeld 26 = .ok (.istore_n 3, 1) := by decide +kernel
theorem dX8_versionsHeld_27 : decode cX8_versionsHeld 27 = .ok (.iinc 4 1, 3) := by decide +kernel
theorem dX8_versionsHeld_30 : decode cX8_versionsHeld 30 = .ok (.goto (-25), 3) := by decide +kernel
theorem dX8_versionsHeld_33 : decode cX8_versionsHeld 33 = .ok (.iload_n 3, 1) := by decide +kernel
theorem dX8_versionsHeld_34 : decode cX8_versionsHeld 34 = .ok (.ireturn, 1) := by decide +kernel
theorem dX8_asOf_0 : decode cX8_asOf 0 = .ok (.iconst 0, 1) := by decide +kernel
theorem dX8_asOf_1 : decode cX8_asOf 1 = .ok (.istore 4, 2) := by decide +kernel
theorem dX8_asOf_3 : decode cX8_asOf 3 = .ok (.iconst 0, 1) := by decide +kernel
theorem dX8_asOf_4 : decode cX8_asOf 4 = .ok (.istore 5, 2) := by decide +kernel
theorem dX8_asOf_6 : decode cX8_asOf 6 = .ok (.iload 5, 2) := by decide +kernel
theorem dX8_asOf_8 : decode cX8_asOf 8 = .ok (.aload_n 1, 1) := by decide +kernel
theorem dX8_asOf_9 : decode cX8_asOf 9 = .ok (.getfield 19, 3) := by decide +kernel
theorem dX8_asOf_12 : decode cX8_asOf 12 = .ok (.if_icmp .ge 68, 3) := by decide +kernel
theorem dX8_asOf_15 : decode cX8_asOf 15 = .ok (.iconst (-1), 1) := by decide +kernel
theorem dX8_asOf_16 : decode cX8_asOf 16 = .ok (.istore 6, 2) := by decide +kernel
theorem dX8_asOf_18 : decode cX8_asOf 18 = .ok (.iconst 0, 1) := by decide +kernel
theorem dX8_asOf_19 : decode cX8_asOf 19 = .ok (.istore 7, 2) := by decide +kernel
theorem dX8_asOf_21 : decode cX8_asOf 21 = .ok (.iload 7, 2) := by decide +kernel
theorem dX8_asOf_23 : decode cX8_asOf 23 = .ok (.aload_n 1, 1) := by decide +kernel
theorem dX8_asOf_24 : decode cX8_asOf 24 = .ok (.iload 5, 2) := by decide +kernel
theorem dX8_asOf_26 : decode cX8_asOf 26 = .ok (.invokevirtual 54, 3) := by decide +kernel
theorem dX8_asOf_29 : decode cX8_asOf 29 = .ok (.if_icmp .ge 25, 3) := by decide +kernel
theorem dX8_asOf_32 : decode cX8_asOf 32 = .ok (.aload_n 1, 1) := by decide +kernel
theorem dX8_asOf_33 : decode cX8_asOf 33 = .ok (.iload 5, 2) := by decide +kernel
theorem dX8_asOf_35 : decode cX8_asOf 35 = .ok (.iload 7, 2) := by decide +kernel
theorem dX8_asOf_37 : decode cX8_asOf 37 = .ok (.invokevirtual 99, 3) := by decide +kernel
theorem dX8_asOf_40 : decode cX8_asOf 40 = .ok (.iload_n 3, 1) := by decide +kernel
theorem dX8_asOf_41 : decode cX8_asOf 41 = .ok (.if_icmp .gt 7, 3) := by decide +kernel
theorem dX8_asOf_44 : decode cX8_asOf 44 = .ok (.iload 7, 2) := by decide +kernel
theorem dX8_asOf_46 : decode cX8_asOf 46 = .ok (.istore 6, 2) := by decide +kernel
theorem dX8_asOf_48 : decode cX8_asOf 48 = .ok (.iinc 7 1, 3) := by decide +kernel
theorem dX8_asOf_51 : decode cX8_asOf 51 = .ok (.goto (-30), 3) := by decide +kernel
theorem dX8_asOf_54 : decode cX8_asOf 54 = .ok (.iload 4, 2) := by decide +kernel
theorem dX8_asOf_56 : decode cX8_asOf 56 = .ok (.aload_n 0, 1) := by decide +kernel
theorem dX8_asOf_57 : decode cX8_asOf 57 = .ok (.iload_n 2, 1) := by decide +kernel
theorem dX8_asOf_58 : decode cX8_asOf 58 = .ok (.iload 5, 2) := by decide +kernel
theorem dX8_asOf_60 : decode cX8_asOf 60 = .ok (.invokevirtual 41, 3) := by decide +kernel
theorem dX8_asOf_63 : decode cX8_asOf 63 = .ok (.iload 6, 2) := by decide +kernel
theorem dX8_asOf_65 : decode cX8_asOf 65 = .ok (.invokestatic 102, 3) := by decide +kernel
theorem dX8_asOf_68 : decode cX8_asOf 68 = .ok (.iload 5, 2) := by decide +kernel
theorem dX8_asOf_70 : decode cX8_asOf 70 = .ok (.ishl, 1) := by decide +kernel
theorem dX8_asOf_71 : decode cX8_asOf 71 = .ok (.ior, 1) := by decide +kernel
theorem dX8_asOf_72 : decode cX8_asOf 72 = .ok (.istore 4, 2) := by decide +kernel
theorem dX8_asOf_74 : decode cX8_asOf 74 = .ok (.iinc 5 1, 3) := by decide +kernel
theorem dX8_asOf_77 : decode cX8_asOf 77 = .ok (.goto (-71), 3) := by decide +kernel
theorem dX8_asOf_80 : decode cX8_asOf 80 = .ok (.iload 4, 2) := by decide +kernel
theorem dX8_asOf_82 : decode cX8_asOf 82 = .ok (.ireturn, 1) := by decide +kernel
theorem dX8_changes_0 : decode cX8_changes 0 = .ok (.iconst 0, 1) := by decide +kernel
theorem dX8_changes_1 : decode cX8_changes 1 = .ok (.istore_n 3, 1) := by decide +kernel
theorem dX8_changes_2 : decode cX8_changes 2 = .ok (.iconst 0, 1) := by decide +kernel
theorem dX8_changes_3 : decode cX8_changes 3 = .ok (.istore 4, 2) := by decide +kernel
theorem dX8_changes_5 : decode cX8_changes 5 = .ok (.iload 4, 2) := by decide +kernel
theorem dX8_changes_7 : decode cX8_changes 7 = .ok (.aload_n 1, 1) := by decide +kernel
theorem dX8_changes_8 : decode cX8_changes 8 = .ok (.invokevirtual 105, 3) := by decide +kernel
theorem dX8_changes_11 : decode cX8_changes 11 = .ok (.if_icmp .ge 28, 3) := by decide +kernel
theorem dX8_changes_14 : decode cX8_changes 14 = .ok (.iload_n 3, 1) := by decide +kernel
theorem dX8_changes_15 : decode cX8_changes 15 = .ok (.aload_n 0, 1) := by decide +kernel
theorem dX8_changes_16 : decode cX8_changes 16 = .ok (.aload_n 1, 1) := by decide +kernel
theorem dX8_changes_17 : decode cX8_changes 17 = .ok (.iload_n 2, 1) := by decide +kernel
theorem dX8_changes_18 : decode cX8_changes 18 = .ok (.iload 4, 2) := by decide +kernel
theorem dX8_changes_20 : decode cX8_changes 20 = .ok (.invokevirtual 109, 3) := by decide +kernel
theorem dX8_changes_23 : decode cX8_changes 23 = .ok (.ifCond .eq 7, 3) := by decide +kernel
theorem dX8_changes_26 : decode cX8_changes 26 = .ok (.iconst 1, 1) := by decide +kernel
theorem dX8_changes_27 : decode cX8_changes 27 = .ok (.goto 4, 3) := by decide +kernel
theorem dX8_changes_30 : decode cX8_changes 30 = .ok (.iconst 0, 1) := by decide +kernel
theorem dX8_changes_31 : decode cX8_changes 31 = .ok (.iadd, 1) := by decide +kernel
theorem dX8_changes_32 : decode cX8_changes 32 = .ok (.istore_n 3, 1) := by decide +kernel
theorem dX8_changes_33 : decode cX8_changes 33 = .ok (.iinc 4 1, 3) := by decide +kernel
theorem dX8_changes_36 : decode cX8_changes 36 = .ok (.goto (-31), 3) := by decide +kernel
theorem dX8_changes_39 : decode cX8_changes 39 = .ok (.iload_n 3, 1) := by decide +kernel
theorem dX8_changes_40 : decode cX8_changes 40 = .ok (.ireturn, 1) := by decide +kernel
theorem dX8_changeAt_0 : decode cX8_changeAt 0 = .ok (.iconst 0, 1) := by decide +kernel
theorem dX8_changeAt_1 : decode cX8_changeAt 1 = .ok (.istore 4, 2) := by decide +kernel
theorem dX8_changeAt_3 : decode cX8_changeAt 3 = .ok (.iconst 0, 1) := by decide +kernel
theorem dX8_changeAt_4 : decode cX8_changeAt 4 = .ok (.istore 5, 2) := by decide +kernel
theorem dX8_changeAt_6 : decode cX8_changeAt 6 = .ok (.iload 5, 2) := by decide +kernel
theorem dX8_changeAt_8 : decode cX8_changeAt 8 = .ok (.aload_n 1, 1) := by decide +kernel
theorem dX8_changeAt_9 : decode cX8_changeAt 9 = .ok (.invokevirtual 105, 3) := by decide +kernel
theorem dX8_changeAt_12 : decode cX8_changeAt 12 = .ok (.if_icmp .ge 32, 3) := by decide +kernel
theorem dX8_changeAt_15 : decode cX8_changeAt 15 = .ok (.aload_n 0, 1) := by decide +kernel
theorem dX8_changeAt_16 : decode cX8_changeAt 16 = .ok (.aload_n 1, 1) := by decide +kernel
theorem dX8_changeAt_17 : decode cX8_changeAt 17 = .ok (.iload_n 2, 1) := by decide +kernel
theorem dX8_changeAt_18 : decode cX8_changeAt 18 = .ok (.iload 5, 2) := by decide +kernel
theorem dX8_changeAt_20 : decode cX8_changeAt 20 = .ok (.invokevirtual 109, 3) := by decide +kernel
theorem dX8_changeAt_23 : decode cX8_changeAt 23 = .ok (.ifCond .eq 15, 3) := by decide +kernel
theorem dX8_changeAt_26 : decode cX8_changeAt 26 = .ok (.iload 4, 2) := by decide +kernel
theorem dX8_changeAt_28 : decode cX8_changeAt 28 = .ok (.iload_n 3, 1) := by decide +kernel
theorem dX8_changeAt_29 : decode cX8_changeAt 29 = .ok (.if_icmp .ne 6, 3) := by decide +kernel
theorem dX8_changeAt_32 : decode cX8_changeAt 32 = .ok (.iload 5, 2) := by decide +kernel
theorem dX8_changeAt_34 : decode cX8_changeAt 34 = .ok (.ireturn, 1) := by decide +kernel
theorem dX8_changeAt_35 : decode cX8_changeAt 35 = .ok (.iinc 4 1, 3) := by decide +kernel
theorem dX8_changeAt_38 : decode cX8_changeAt 38 = .ok (.iinc 5 1, 3) := by decide +kernel
theorem dX8_changeAt_41 : decode cX8_changeAt 41 = .ok (.goto (-35), 3) := by decide +kernel
theorem dX8_changeAt_44 : decode cX8_changeAt 44 = .ok (.iconst (-1), 1) := by decide +kernel
theorem dX8_changeAt_45 : decode cX8_changeAt 45 = .ok (.ireturn, 1) := by decide +kernel
theorem dX8_isChange_0 : decode cX8_isChange 0 = .ok (.aload_n 0, 1) := by decide +kernel
theorem dX8_isChange_1 : decode cX8_isChange 1 = .ok (.aload_n 1, 1) := by decide +kernel
theorem dX8_isChange_2 : decode cX8_isChange 2 = .ok (.iload_n 2, 1) := by decide +kernel
theorem dX8_isChange_3 : decode cX8_isChange 3 = .ok (.iload_n 3, 1) := by decide +kernel
theorem dX8_isChange_4 : decode cX8_isChange 4 = .ok (.invokevirtual 113, 3) := by decide +kernel
theorem dX8_isChange_7 : decode cX8_isChange 7 = .ok (.aload_n 0, 1) := by decide +kernel
theorem dX8_isChange_8 : decode cX8_isChange 8 = .ok (.aload_n 1, 1) := by decide +kernel
theorem dX8_isChange_9 : decode cX8_isChange 9 = .ok (.iload_n 2, 1) := by decide +kernel
theorem dX8_isChange_10 : decode cX8_isChange 10 = .ok (.iload_n 3, 1) := by decide +kernel
theorem dX8_isChange_11 : decode cX8_isChange 11 = .ok (.iconst 1, 1) := by decide +kernel
theorem dX8_isChange_12 : decode cX8_isChange 12 = .ok (.isub, 1) := by decide +kernel
theorem dX8_isChange_13 : decode cX8_isChange 13 = .ok (.invokevirtual 113, 3) := by decide +kernel
theorem dX8_isChange_16 : decode cX8_isChange 16 = .ok (.if_icmp .eq 7, 3) := by decide +kernel
theorem dX8_isChange_19 : decode cX8_isChange 19 = .ok (.iconst 1, 1) := by decide +kernel
theorem dX8_isChange_20 : decode cX8_isChange 20 = .ok (.goto 4, 3) := by decide +kernel
theorem dX8_isChange_23 : decode cX8_isChange 23 = .ok (.iconst 0, 1) := by decide +kernel
theorem dX8_isChange_24 : decode cX8_isChange 24 = .ok (.ireturn, 1) := by decide +kernel
theorem dX8_ranked_0 : decode cX8_ranked 0 = .ok (.iconst 0, 1) := by decide +kernel
theorem dX8_ranked_1 : decode cX8_ranked 1 = .ok (.istore 4, 2) := by decide +kernel
theorem dX8_ranked_3 : decode cX8_ranked 3 = .ok (.iload 4, 2) := by decide +kernel
theorem dX8_ranked_5 : decode cX8_ranked 5 = .ok (.aload_n 1, 1) := by decide +kernel
theorem dX8_ranked_6 : decode cX8_ranked 6 = .ok (.getfield 19, 3) := by decide +kernel
theorem dX8_ranked_9 : decode cX8_ranked 9 = .ok (.if_icmp .ge 69, 3) := by decide +kernel
theorem dX8_ranked_12 : decode cX8_ranked 12 = .ok (.iconst 0, 1) := by decide +kernel
theorem dX8_ranked_13 : decode cX8_ranked 13 = .ok (.istore 5, 2) := by decide +kernel
theorem dX8_ranked_15 : decode cX8_ranked 15 = .ok (.iconst 0, 1) := by decide +kernel
theorem dX8_ranked_16 : decode cX8_ranked 16 = .ok (.istore 6, 2) := by decide +kernel
theorem dX8_ranked_18 : decode cX8_ranked 18 = .ok (.iload 6, 2) := by decide +kernel
theorem dX8_ranked_20 : decode cX8_ranked 20 = .ok (.aload_n 1, 1) := by decide +kernel
theorem dX8_ranked_21 : decode cX8_ranked 21 = .ok (.getfield 19, 3) := by decide +kernel
theorem dX8_ranked_24 : decode cX8_ranked 24 = .ok (.if_icmp .ge 39, 3) := by decide +kernel
theorem dX8_ranked_27 : decode cX8_ranked 27 = .ok (.iload 5, 2) := by decide +kernel
theorem dX8_ranked_29 : decode cX8_ranked 29 = .ok (.iload 6, 2) := by decide +kernel
theorem dX8_ranked_31 : decode cX8_ranked 31 = .ok (.iload 4, 2) := by decide +kernel
theorem dX8_ranked_33 : decode cX8_ranked 33 = .ok (.if_icmp .eq 20, 3) := by decide +kernel
theorem dX8_ranked_36 : decode cX8_ranked 36 = .ok (.aload_n 0, 1) := by decide +kernel
theorem dX8_ranked_37 : decode cX8_ranked 37 = .ok (.aload_n 1, 1) := by decide +kernel
theorem dX8_ranked_38 : decode cX8_ranked 38 = .ok (.iload_n 2, 1) := by decide +kernel
theorem dX8_ranked_39 : decode cX8_ranked 39 = .ok (.iload 6, 2) := by decide +kernel
theorem dX8_ranked_41 : decode cX8_ranked 41 = .ok (.iload 4, 2) := by decide +kernel
theorem dX8_ranked_43 : decode cX8_ranked 43 = .ok (.invokevirtual 117, 3) := by decide +kernel
theorem dX8_ranked_46 : decode cX8_ranked 46 = .ok (.ifCond .eq 7, 3) := by decide +kernel
theorem dX8_ranked_49 : decode cX8_ranked 49 = .ok (.iconst 1, 1) := by decide +kernel
theorem dX8_ranked_50 : decode cX8_ranked 50 = .ok (.goto 4, 3) := by decide +kernel
theorem dX8_ranked_53 : decode cX8_ranked 53 = .ok (.iconst 0, 1) := by decide +kernel
theorem dX8_ranked_54 : decode cX8_ranked 54 = .ok (.iadd, 1) := by decide +kernel
theorem dX8_ranked_55 : decode cX8_ranked 55 = .ok (.istore 5, 2) := by decide +kernel
theorem dX8_ranked_57 : decode cX8_ranked 57 = .ok (.iinc 6 1, 3) := by decide +kernel
theorem dX8_ranked_60 : decode cX8_ranked 60 = .ok (.goto (-42), 3) := by decide +kernel
theorem dX8_ranked_63 : decode cX8_ranked 63 = .ok (.iload 5, 2) := by decide +kernel
theorem dX8_ranked_65 : decode cX8_ranked 65 = .ok (.iload_n 3, 1) := by decide +kernel
theorem dX8_ranked_66 : decode cX8_ranked 66 = .ok (.if_icmp .ne 6, 3) := by decide +kernel
theorem dX8_ranked_69 : decode cX8_ranked 69 = .ok (.iload 4, 2) := by decide +kernel
theorem dX8_ranked_71 : decode cX8_ranked 71 = .ok (.ireturn, 1) := by decide +kernel
theorem dX8_ranked_72 : decode cX8_ranked 72 = .ok (.iinc 4 1, 3) := by decide +kernel
theorem dX8_ranked_75 : decode cX8_ranked 75 = .ok (.goto (-72), 3) := by decide +kernel
theorem dX8_ranked_78 : decode cX8_ranked 78 = .ok (.iconst (-1), 1) := by decide +kernel
theorem dX8_ranked_79 : decode cX8_ranked 79 = .ok (.ireturn, 1) := by decide +kernel
theorem dX8_isAhead_0 : decode cX8_isAhead 0 = .ok (.aload_n 0, 1) := by decide +kernel
theorem dX8_isAhead_1 : decode cX8_isAhead 1 = .ok (.iload_n 2, 1) := by decide +kernel
theorem dX8_isAhead_2 : decode cX8_isAhead 2 = .ok (.iload_n 3, 1) := by decide +kernel
theorem dX8_isAhead_3 : decode cX8_isAhead 3 = .ok (.invokevirtual 41, 3) := by decide +kernel
theorem dX8_isAhead_6 : decode cX8_isAhead 6 = .ok (.invokestatic 94, 3) := by decide +kernel
theorem dX8_isAhead_9 : decode cX8_isAhead 9 = .ok (.aload_n 0, 1) := by decide +kernel
theorem dX8_isAhead_10 : decode cX8_isAhead 10 = .ok (.iload_n 2, 1) := by decide +kernel
theorem dX8_isAhead_11 : decode cX8_isAhead 11 = .ok (.iload 4, 2) := by decide +kernel
theorem dX8_isAhead_13 : decode cX8_isAhead 13 = .ok (.invokevirtual 41, 3) := by decide +kernel
theorem dX8_isAhead_16 : decode cX8_isAhead 16 = .ok (.invokestatic 94, 3) := by decide +kernel
theorem dX8_isAhead_19 : decode cX8_isAhead 19 = .ok (.isub, 1) := by decide +kernel
theorem dX8_isAhead_20 : decode cX8_isAhead 20 = .ok (.istore 5, 2) := by decide +kernel
theorem dX8_isAhead_22 : decode cX8_isAhead 22 = .ok (.iload 5, 2) := by decide +kernel
theorem dX8_isAhead_24 : decode cX8_isAhead 24 = .ok (.ifCond .eq 14, 3) := by decide +kernel
theorem dX8_isAhead_27 : decode cX8_isAhead 27 = .ok (.iload 5, 2) := by decide +kernel
theorem dX8_isAhead_29 : decode cX8_isAhead 29 = .ok (.ifCond .le 7, 3) := by decide +kernel
theorem dX8_isAhead_32 : decode cX8_isAhead 32 = .ok (.iconst 1, 1) := by decide +kernel
theorem dX8_isAhead_33 : decode cX8_isAhead 33 = .ok (.goto 4, 3) := by decide +kernel
theorem dX8_isAhead_36 : decode cX8_isAhead 36 = .ok (.iconst 0, 1) := by decide +kernel
theorem dX8_isAhead_37 : decode cX8_isAhead 37 = .ok (.ireturn, 1) := by decide +kernel
theorem dX8_isAhead_38 : decode cX8_isAhead 38 = .ok (.aload_n 0, 1) := by decide +kernel
theorem dX8_isAhead_39 : decode cX8_isAhead 39 = .ok (.aload_n 1, 1) := by decide +kernel
theorem dX8_isAhead_40 : decode cX8_isAhead 40 = .ok (.iload_n 2, 1) := by decide +kernel
theorem dX8_isAhead_41 : decode cX8_isAhead 41 = .ok (.iload_n 3, 1) := by decide +kernel
theorem dX8_isAhead_42 : decode cX8_isAhead 42 = .ok (.invokevirtual 121, 3) := by decide +kernel
theorem dX8_isAhead_45 : decode cX8_isAhead 45 = .ok (.aload_n 0, 1) := by decide +kernel
theorem dX8_isAhead_46 : decode cX8_isAhead 46 = .ok (.aload_n 1, 1) := by decide +kernel
theorem dX8_isAhead_47 : decode cX8_isAhead 47 = .ok (.iload_n 2, 1) := by decide +kernel
theorem dX8_isAhead_48 : decode cX8_isAhead 48 = .ok (.iload 4, 2) := by decide +kernel
theorem dX8_isAhead_50 : decode cX8_isAhead 50 = .ok (.invokevirtual 121, 3) := by decide +kernel
theorem dX8_isAhead_53 : decode cX8_isAhead 53 = .ok (.isub, 1) := by decide +kernel
theorem dX8_isAhead_54 : decode cX8_isAhead 54 = .ok (.istore 6, 2) := by decide +kernel
theorem dX8_isAhead_56 : decode cX8_isAhead 56 = .ok (.iload 6, 2) := by decide +kernel
theorem dX8_isAhead_58 : decode cX8_isAhead 58 = .ok (.ifCond .eq 16, 3) := by decide +kernel
theorem dX8_isAhead_61 : decode cX8_isAhead 61 = .ok (.iload 6, 2) := by decide +kernel
theorem dX8_isAhead_63 : decode cX8_isAhead 63 = .ok (.ifCond .le 7, 3) := by decide +kernel
theorem dX8_isAhead_66 : decode cX8_isAhead 66 = .ok (.iconst 1, 1) := by decide +kernel
theorem dX8_isAhead_67 : decode cX8_isAhead 67 = .ok (.goto 18, 3) := by decide +kernel
theorem dX8_isAhead_70 : decode cX8_isAhead 70 = .ok (.iconst 0, 1) := by decide +kernel
theorem dX8_isAhead_71 : decode cX8_isAhead 71 = .ok (.goto 14, 3) := by decide +kernel
theorem dX8_isAhead_74 : decode cX8_isAhead 74 = .ok (.iload_n 3, 1) := by decide +kernel
theorem dX8_isAhead_75 : decode cX8_isAhead 75 = .ok (.iload 4, 2) := by decide +kernel
theorem dX8_isAhead_77 : decode cX8_isAhead 77 = .ok (.if_icmp .ge 7, 3) := by decide +kernel
theorem dX8_isAhead_80 : decode cX8_isAhead 80 = .ok (.iconst 1, 1) := by decide +kernel
theorem dX8_isAhead_81 : decode cX8_isAhead 81 = .ok (.goto 4, 3) := by decide +kernel
theorem dX8_isAhead_84 : decode cX8_isAhead 84 = .ok (.iconst 0, 1) := by decide +kernel
theorem dX8_isAhead_85 : decode cX8_isAhead 85 = .ok (.ireturn, 1) := by decide +kernel
theorem dX8_latestHeld_0 : decode cX8_latestHeld 0 = .ok (.aload_n 0, 1) := by decide +kernel
theorem dX8_latestHeld_1 : decode cX8_latestHeld 1 = .ok (.iload_n 2, 1) := by decide +kernel
theorem dX8_latestHeld_2 : decode cX8_latestHeld 2 = .ok (.iload_n 3, 1) := by decide +kernel
theorem dX8_latestHeld_3 : decode cX8_latestHeld 3 = .ok (.invokevirtual 41, 3) := by decide +kernel
theorem dX8_latestHeld_6 : decode cX8_latestHeld 6 = .ok (.aload_n 1, 1) := by decide +kernel
theorem dX8_latestHeld_7 : decode cX8_latestHeld 7 = .ok (.iload_n 3, 1) := by decide +kernel
theorem dX8_latestHeld_8 : decode cX8_latestHeld 8 = .ok (.invokevirtual 54, 3) := by decide +kernel
theorem dX8_latestHeld_11 : decode cX8_latestHeld 11 = .ok (.iconst 1, 1) := by decide +kernel
theorem dX8_latestHeld_12 : decode cX8_latestHeld 12 = .ok (.isub, 1) := by decide +kernel
theorem dX8_latestHeld_13 : decode cX8_latestHeld 13 = .ok (.invokestatic 102, 3) := by decide +kernel
theorem dX8_latestHeld_16 : decode cX8_latestHeld 16 = .ok (.ireturn, 1) := by decide +kernel
theorem dX8_heldMost_0 : decode cX8_heldMost 0 = .ok (.iconst (-1), 1) := by decide +kernel
theorem dX8_heldMost_1 : decode cX8_heldMost 1 = .ok (.istore_n 3, 1) := by decide +kernel
theorem dX8_heldMost_2 : decode cX8_heldMost 2 = .ok (.iconst 0, 1) := by decide +kernel
theorem dX8_heldMost_3 : decode cX8_heldMost 3 = .ok (.istore 4, 2) := by decide +kernel
theorem dX8_heldMost_5 : decode cX8_heldMost 5 = .ok (.iload 4, 2) := by decide +kernel
theorem dX8_heldMost_7 : decode cX8_heldMost 7 = .ok (.aload_n 2, 1) := by decide +kernel
theorem dX8_heldMost_8 : decode cX8_heldMost 8 = .ok (.getfield 124, 3) := by decide +kernel
theorem dX8_heldMost_11 : decode cX8_heldMost 11 = .ok (.if_icmp .ge 33, 3) := by decide +kernel
theorem dX8_heldMost_14 : decode cX8_heldMost 14 = .ok (.iload_n 3, 1) := by decide +kernel
theorem dX8_heldMost_15 : decode cX8_heldMost 15 = .ok (.iconst (-1), 1) := by decide +kernel
theorem dX8_heldMost_16 : decode cX8_heldMost 16 = .ok (.if_icmp .eq 19, 3) := by decide +kernel
theorem dX8_heldMost_19 : decode cX8_heldMost 19 = .ok (.aload_n 0, 1) := by decide +kernel
theorem dX8_heldMost_20 : decode cX8_heldMost 20 = .ok (.aload_n 1, 1) := by decide +kernel
theorem dX8_heldMost_21 : decode cX8_heldMost 21 = .ok (.iload 4, 2) := by decide +kernel
theorem dX8_heldMost_23 : decode cX8_heldMost 23 = .ok (.invokevirtual 127, 3) := by decide +kernel
theorem dX8_heldMost_26 : decode cX8_heldMost 26 = .ok (.aload_n 0, 1) := by decide +kernel
theorem dX8_heldMost_27 : decode cX8_heldMost 27 = .ok (.aload_n 1, 1) := by decide +kernel
theorem dX8_heldMost_28 : decode cX8_heldMost 28 = .ok (.iload_n 3, 1) := by decide +kernel
theorem dX8_heldMost_29 : decode cX8_heldMost 29 = .ok (.invokevirtual 127, 3) := by decide +kernel
theorem dX8_heldMost_32 : decode cX8_heldMost 32 = .ok (.if_icmp .le 6, 3) := by decide +kernel
theorem dX8_heldMost_35 : decode cX8_heldMost 35 = .ok (.iload 4, 2) := by decide +kernel
