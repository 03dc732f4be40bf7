theorem dX8_heldMost_37 : decode cX8_heldMost 37 = .ok (.istore_n 3, 1) := by decide +kernel
theorem dX8_heldMost_38 : decode cX8_heldMost 38 = .ok (.iinc 4 1, 3) := by decide +kernel
theorem dX8_heldMost_41 : decode cX8_heldMost 41 = .ok (.goto (-36), 3) := by decide +kernel
theorem dX8_heldMost_44 : decode cX8_heldMost 44 = .ok (.iload_n 3, 1) := by decide +kernel
theorem dX8_heldMost_45 : decode cX8_heldMost 45 = .ok (.ireturn, 1) := by decide +kernel
theorem dX8_sameCouples_0 : decode cX8_sameCouples 0 = .ok (.iconst 0, 1) := by decide +kernel
theorem dX8_sameCouples_1 : decode cX8_sameCouples 1 = .ok (.istore_n 3, 1) := by decide +kernel
theorem dX8_sameCouples_2 : decode cX8_sameCouples 2 = .ok (.iconst 0, 1) := by decide +kernel
theorem dX8_sameCouples_3 : decode cX8_sameCouples 3 = .ok (.istore 4, 2) := by decide +kernel
theorem dX8_sameCouples_5 : decode cX8_sameCouples 5 = .ok (.iload 4, 2) := by decide +kernel
theorem dX8_sameCouples_7 : decode cX8_sameCouples 7 = .ok (.aload_n 2, 1) := by decide +kernel
theorem dX8_sameCouples_8 : decode cX8_sameCouples 8 = .ok (.getfield 124, 3) := by decide +kernel
theorem dX8_sameCouples_11 : decode cX8_sameCouples 11 = .ok (.if_icmp .ge 57, 3) := by decide +kernel
theorem dX8_sameCouples_14 : decode cX8_sameCouples 14 = .ok (.iconst 0, 1) := by decide +kernel
theorem dX8_sameCouples_15 : decode cX8_sameCouples 15 = .ok (.istore 5, 2) := by decide +kernel
theorem dX8_sameCouples_17 : decode cX8_sameCouples 17 = .ok (.iload 5, 2) := by decide +kernel
theorem dX8_sameCouples_19 : decode cX8_sameCouples 19 = .ok (.iload 4, 2) := by decide +kernel
theorem dX8_sameCouples_21 : decode cX8_sameCouples 21 = .ok (.if_icmp .ge 41, 3) := by decide +kernel
theorem dX8_sameCouples_24 : decode cX8_sameCouples 24 = .ok (.iload_n 3, 1) := by decide +kernel
theorem dX8_sameCouples_25 : decode cX8_sameCouples 25 = .ok (.aload_n 0, 1) := by decide +kernel
theorem dX8_sameCouples_26 : decode cX8_sameCouples 26 = .ok (.aload_n 1, 1) := by decide +kernel
theorem dX8_sameCouples_27 : decode cX8_sameCouples 27 = .ok (.iload 4, 2) := by decide +kernel
theorem dX8_sameCouples_29 : decode cX8_sameCouples 29 = .ok (.iload 5, 2) := by decide +kernel
theorem dX8_sameCouples_31 : decode cX8_sameCouples 31 = .ok (.invokevirtual 131, 3) := by decide +kernel
theorem dX8_sameCouples_34 : decode cX8_sameCouples 34 = .ok (.ifCond .eq 19, 3) := by decide +kernel
theorem dX8_sameCouples_37 : decode cX8_sameCouples 37 = .ok (.aload_n 0, 1) := by decide +kernel
theorem dX8_sameCouples_38 : decode cX8_sameCouples 38 = .ok (.aload_n 1, 1) := by decide +kernel
theorem dX8_sameCouples_39 : decode cX8_sameCouples 39 = .ok (.iload 5, 2) := by decide +kernel
theorem dX8_sameCouples_41 : decode cX8_sameCouples 41 = .ok (.iload 4, 2) := by decide +kernel
theorem dX8_sameCouples_43 : decode cX8_sameCouples 43 = .ok (.invokevirtual 131, 3) := by decide +kernel
theorem dX8_sameCouples_46 : decode cX8_sameCouples 46 = .ok (.ifCond .eq 7, 3) := by decide +kernel
theorem dX8_sameCouples_49 : decode cX8_sameCouples 49 = .ok (.iconst 1, 1) := by decide +kernel
theorem dX8_sameCouples_50 : decode cX8_sameCouples 50 = .ok (.goto 4, 3) := by decide +kernel
theorem dX8_sameCouples_53 : decode cX8_sameCouples 53 = .ok (.iconst 0, 1) := by decide +kernel
theorem dX8_sameCouples_54 : decode cX8_sameCouples 54 = .ok (.iadd, 1) := by decide +kernel
theorem dX8_sameCouples_55 : decode cX8_sameCouples 55 = .ok (.istore_n 3, 1) := by decide +kernel
theorem dX8_sameCouples_56 : decode cX8_sameCouples 56 = .ok (.iinc 5 1, 3) := by decide +kernel
theorem dX8_sameCouples_59 : decode cX8_sameCouples 59 = .ok (.goto (-42), 3) := by decide +kernel
theorem dX8_sameCouples_62 : decode cX8_sameCouples 62 = .ok (.iinc 4 1, 3) := by decide +kernel
theorem dX8_sameCouples_65 : decode cX8_sameCouples 65 = .ok (.goto (-60), 3) := by decide +kernel
theorem dX8_sameCouples_68 : decode cX8_sameCouples 68 = .ok (.iload_n 3, 1) := by decide +kernel
theorem dX8_sameCouples_69 : decode cX8_sameCouples 69 = .ok (.ireturn, 1) := by decide +kernel
theorem dX8_within_0 : decode cX8_within 0 = .ok (.iconst 0, 1) := by decide +kernel
theorem dX8_within_1 : decode cX8_within 1 = .ok (.istore 4, 2) := by decide +kernel
theorem dX8_within_3 : decode cX8_within 3 = .ok (.iload 4, 2) := by decide +kernel
theorem dX8_within_5 : decode cX8_within 5 = .ok (.aload_n 1, 1) := by decide +kernel
theorem dX8_within_6 : decode cX8_within 6 = .ok (.getfield 19, 3) := by decide +kernel
theorem dX8_within_9 : decode cX8_within 9 = .ok (.if_icmp .ge 31, 3) := by decide +kernel
theorem dX8_within_12 : decode cX8_within 12 = .ok (.aload_n 0, 1) := by decide +kernel
theorem dX8_within_13 : decode cX8_within 13 = .ok (.iload_n 2, 1) := by decide +kernel
theorem dX8_within_14 : decode cX8_within 14 = .ok (.iload 4, 2) := by decide +kernel
theorem dX8_within_16 : decode cX8_within 16 = .ok (.invokevirtual 41, 3) := by decide +kernel
theorem dX8_within_19 : decode cX8_within 19 = .ok (.aload_n 0, 1) := by decide +kernel
theorem dX8_within_20 : decode cX8_within 20 = .ok (.iload_n 3, 1) := by decide +kernel
theorem dX8_within_21 : decode cX8_within 21 = .ok (.iload 4, 2) := by decide +kernel
theorem dX8_within_23 : decode cX8_within 23 = .ok (.invokevirtual 41, 3) := by decide +kernel
theorem dX8_within_26 : decode cX8_within 26 = .ok (.iconst (-1), 1) := by decide +kernel
theorem dX8_within_27 : decode cX8_within 27 = .ok (.ixor, 1) := by decide +kernel
theorem dX8_within_28 : decode cX8_within 28 = .ok (.iand, 1) := by decide +kernel
theorem dX8_within_29 : decode cX8_within 29 = .ok (.ifCond .eq 5, 3) := by decide +kernel
theorem dX8_within_32 : decode cX8_within 32 = .ok (.iconst 0, 1) := by decide +kernel
theorem dX8_within_33 : decode cX8_within 33 = .ok (.ireturn, 1) := by decide +kernel
theorem dX8_within_34 : decode cX8_within 34 = .ok (.iinc 4 1, 3) := by decide +kernel
theorem dX8_within_37 : decode cX8_within 37 = .ok (.goto (-34), 3) := by decide +kernel
theorem dX8_within_40 : decode cX8_within 40 = .ok (.iconst 1, 1) := by decide +kernel
theorem dX8_within_41 : decode cX8_within 41 = .ok (.ireturn, 1) := by decide +kernel
theorem dX9_init_0 : decode cX9_init 0 = .ok (.aload_n 0, 1) := by decide +kernel
theorem dX9_init_1 : decode cX9_init 1 = .ok (.invokespecial 3, 3) := by decide +kernel
theorem dX9_init_4 : decode cX9_init 4 = .ok (.aload_n 0, 1) := by decide +kernel
theorem dX9_init_5 : decode cX9_init 5 = .ok (.new 9, 3) := by decide +kernel
theorem dX9_init_8 : decode cX9_init 8 = .ok (.dup, 1) := by decide +kernel
theorem dX9_init_9 : decode cX9_init 9 = .ok (.invokespecial 11, 3) := by decide +kernel
theorem dX9_init_12 : decode cX9_init 12 = .ok (.putfield 12, 3) := by decide +kernel
theorem dX9_init_15 : decode cX9_init 15 = .ok (.aload_n 0, 1) := by decide +kernel
theorem dX9_init_16 : decode cX9_init 16 = .ok (.iconst 0, 1) := by decide +kernel
theorem dX9_init_17 : decode cX9_init 17 = .ok (.putfield 18, 3) := by decide +kernel
theorem dX9_init_20 : decode cX9_init 20 = .ok (.aload_n 0, 1) := by decide +kernel
theorem dX9_init_21 : decode cX9_init 21 = .ok (.iconst (-1), 1) := by decide +kernel
theorem dX9_init_22 : decode cX9_init 22 = .ok (.putfield 22, 3) := by decide +kernel
theorem dX9_init_25 : decode cX9_init 25 = .ok (.aload_n 0, 1) := by decide +kernel
theorem dX9_init_26 : decode cX9_init 26 = .ok (.iconst 3, 1) := by decide +kernel
theorem dX9_init_27 : decode cX9_init 27 = .ok (.newarray .int, 2) := by decide +kernel
theorem dX9_init_29 : decode cX9_init 29 = .ok (.putfield 25, 3) := by decide +kernel
theorem dX9_init_32 : decode cX9_init 32 = .ok (.aload_n 0, 1) := by decide +kernel
theorem dX9_init_33 : decode cX9_init 33 = .ok (.iconst 2, 1) := by decide +kernel
theorem dX9_init_34 : decode cX9_init 34 = .ok (.anewarray 29, 3) := by decide +kernel
theorem dX9_init_37 : decode cX9_init 37 = .ok (.putfield 31, 3) := by decide +kernel
theorem dX9_init_40 : decode cX9_init 40 = .ok (.aload_n 0, 1) := by decide +kernel
theorem dX9_init_41 : decode cX9_init 41 = .ok (.iconst 2, 1) := by decide +kernel
theorem dX9_init_42 : decode cX9_init 42 = .ok (.anewarray 35, 3) := by decide +kernel
theorem dX9_init_45 : decode cX9_init 45 = .ok (.putfield 37, 3) := by decide +kernel
theorem dX9_init_48 : decode cX9_init 48 = .ok (.aload_n 0, 1) := by decide +kernel
theorem dX9_init_49 : decode cX9_init 49 = .ok (.iconst 2, 1) := by decide +kernel
theorem dX9_init_50 : decode cX9_init 50 = .ok (.anewarray 41, 3) := by decide +kernel
theorem dX9_init_53 : decode cX9_init 53 = .ok (.putfield 43, 3) := by decide +kernel
theorem dX9_init_56 : decode cX9_init 56 = .ok (.iconst 0, 1) := by decide +kernel
theorem dX9_init_57 : decode cX9_init 57 = .ok (.istore_n 1, 1) := by decide +kernel
theorem dX9_init_58 : decode cX9_init 58 = .ok (.iload_n 1, 1) := by decide +kernel
theorem dX9_init_59 : decode cX9_init 59 = .ok (.iconst 2, 1) := by decide +kernel
theorem dX9_init_60 : decode cX9_init 60 = .ok (.if_icmp .ge 48, 3) := by decide +kernel
theorem dX9_init_63 : decode cX9_init 63 = .ok (.aload_n 0, 1) := by decide +kernel
theorem dX9_init_64 : decode cX9_init 64 = .ok (.getfield 31, 3) := by decide +kernel
theorem dX9_init_67 : decode cX9_init 67 = .ok (.iload_n 1, 1) := by decide +kernel
theorem dX9_init_68 : decode cX9_init 68 = .ok (.new 29, 3) := by decide +kernel
theorem dX9_init_71 : decode cX9_init 71 = .ok (.dup, 1) := by decide +kernel
theorem dX9_init_72 : decode cX9_init 72 = .ok (.invokespecial 47, 3) := by decide +kernel
theorem dX9_init_75 : decode cX9_init 75 = .ok (.aastore, 1) := by decide +kernel
theorem dX9_init_76 : decode cX9_init 76 = .ok (.aload_n 0, 1) := by decide +kernel
theorem dX9_init_77 : decode cX9_init 77 = .ok (.getfield 37, 3) := by decide +kernel
theorem dX9_init_80 : decode cX9_init 80 = .ok (.iload_n 1, 1) := by decide +kernel
theorem dX9_init_81 : decode cX9_init 81 = .ok (.new 35, 3) := by decide +kernel
theorem dX9_init_84 : decode cX9_init 84 = .ok (.dup, 1) := by decide +kernel
theorem dX9_init_85 : decode cX9_init 85 = .ok (.invokespecial 48, 3) := by decide +kernel
theorem dX9_init_88 : decode cX9_init 88 = .ok (.aastore, 1) := by decide +kernel
theorem dX9_init_89 : decode cX9_init 89 = .ok (.aload_n 0, 1) := by decide +kernel
theorem dX9_init_90 : decode cX9_init 90 = .ok (.getfield 43, 3) := by decide +kernel
theorem dX9_init_93 : decode cX9_init 93 = .ok (.iload_n 1, 1) := by decide +kernel
theorem dX9_init_94 : decode cX9_init 94 = .ok (.new 41, 3) := by decide +kernel
theorem dX9_init_97 : decode cX9_init 97 = .ok (.dup, 1) := by decide +kernel
theorem dX9_init_98 : decode cX9_init 98 = .ok (.invokespecial 49, 3) := by decide +kernel
theorem dX9_init_101 : decode cX9_init 101 = .ok (.aastore, 1) := by decide +kernel
theorem dX9_init_102 : decode cX9_init 102 = .ok (.iinc 1 1, 3) := by decide +kernel
theorem dX9_init_105 : decode cX9_init 105 = .ok (.goto (-47), 3) := by decide +kernel
theorem dX9_init_108 : decode cX9_init 108 = .ok (.return_, 1) := by decide +kernel
theorem dX9_copyFrom_0 : decode cX9_copyFrom 0 = .ok (.aload_n 0, 1) := by decide +kernel
theorem dX9_copyFrom_1 : decode cX9_copyFrom 1 = .ok (.getfield 12, 3) := by decide +kernel
theorem dX9_copyFrom_4 : decode cX9_copyFrom 4 = .ok (.aload_n 1, 1) := by decide +kernel
theorem dX9_copyFrom_5 : decode cX9_copyFrom 5 = .ok (.getfield 12, 3) := by decide +kernel
theorem dX9_copyFrom_8 : decode cX9_copyFrom 8 = .ok (.invokevirtual 50, 3) := by decide +kernel
theorem dX9_copyFrom_11 : decode cX9_copyFrom 11 = .ok (.aload_n 0, 1) := by decide +kernel
theorem dX9_copyFrom_12 : decode cX9_copyFrom 12 = .ok (.aload_n 1, 1) := by decide +kernel
theorem dX9_copyFrom_13 : decode cX9_copyFrom 13 = .ok (.getfield 18, 3) := by decide +kernel
theorem dX9_copyFrom_16 : decode cX9_copyFrom 16 = .ok (.putfield 18, 3) := by decide +kernel
theorem dX9_copyFrom_19 : decode cX9_copyFrom 19 = .ok (.aload_n 0, 1) := by decide +kernel
theorem dX9_copyFrom_20 : decode cX9_copyFrom 20 = .ok (.aload_n 1, 1) := by decide +kernel
theorem dX9_copyFrom_21 : decode cX9_copyFrom 21 = .ok (.getfield 22, 3) := by decide +kernel
theorem dX9_copyFrom_24 : decode cX9_copyFrom 24 = .ok (.putfield 22, 3) := by decide +kernel
theorem dX9_copyFrom_27 : decode cX9_copyFrom 27 = .ok (.aload_n 1, 1) := by decide +kernel
theorem dX9_copyFrom_28 : decode cX9_copyFrom 28 = .ok (.getfield 25, 3) := by decide +kernel
theorem dX9_copyFrom_31 : decode cX9_copyFrom 31 = .ok (.aload_n 0, 1) := by decide +kernel
theorem dX9_copyFrom_32 : decode cX9_copyFrom 32 = .ok (.getfield 25, 3) := by decide +kernel
theorem dX9_copyFrom_35 : decode cX9_copyFrom 35 = .ok (.invokestatic 54, 3) := by decide +kernel
theorem dX9_copyFrom_38 : decode cX9_copyFrom 38 = .ok (.iconst 0, 1) := by decide +kernel
theorem dX9_copyFrom_39 : decode cX9_copyFrom 39 = .ok (.istore_n 2, 1) := by decide +kernel
theorem dX9_copyFrom_40 : decode cX9_copyFrom 40 = .ok (.iload_n 2, 1) := by decide +kernel
theorem dX9_copyFrom_41 : decode cX9_copyFrom 41 = .ok (.iconst 2, 1) := by decide +kernel
theorem dX9_copyFrom_42 : decode cX9_copyFrom 42 = .ok (.if_icmp .ge 54, 3) := by decide +kernel
theorem dX9_copyFrom_45 : decode cX9_copyFrom 45 = .ok (.aload_n 0, 1) := by decide +kernel
theorem dX9_copyFrom_46 : decode cX9_copyFrom 46 = .ok (.getfield 31, 3) := by decide +kernel
theorem dX9_copyFrom_49 : decode cX9_copyFrom 49 = .ok (.iload_n 2, 1) := by decide +kernel
theorem dX9_copyFrom_50 : decode cX9_copyFrom 50 = .ok (.aaload, 1) := by decide +kernel
theorem dX9_copyFrom_51 : decode cX9_copyFrom 51 = .ok (.aload_n 1, 1) := by decide +kernel
theorem dX9_copyFrom_52 : decode cX9_copyFrom 52 = .ok (.getfield 31, 3) := by decide +kernel
theorem dX9_copyFrom_55 : decode cX9_copyFrom 55 = .ok (.iload_n 2, 1) := by decide +kernel
theorem dX9_copyFrom_56 : decode cX9_copyFrom 56 = .ok (.aaload, 1) := by decide +kernel
theorem dX9_copyFrom_57 : decode cX9_copyFrom 57 = .ok (.invokevirtual 60, 3) := by decide +kernel
theorem dX9_copyFrom_60 : decode cX9_copyFrom 60 = .ok (.aload_n 0, 1) := by decide +kernel
theorem dX9_copyFrom_61 : decode cX9_copyFrom 61 = .ok (.getfield 37, 3) := by decide +kernel
theorem dX9_copyFrom_64 : decode cX9_copyFrom 64 = .ok (.iload_n 2, 1) := by decide +kernel
theorem dX9_copyFrom_65 : decode cX9_copyFrom 65 = .ok (.aaload, 1) := by decide +kernel
theorem dX9_copyFrom_66 : decode cX9_copyFrom 66 = .ok (.aload_n 1, 1) := by decide +kernel
theorem dX9_copyFrom_67 : decode cX9_copyFrom 67 = .ok (.getfield 37, 3) := by decide +kernel
theorem dX9_copyFrom_70 : decode cX9_copyFrom 70 = .ok (.iload_n 2, 1) := by decide +kernel
theorem dX9_copyFrom_71 : decode cX9_copyFrom 71 = .ok (.aaload, 1) := by decide +kernel
theorem dX9_copyFrom_72 : decode cX9_copyFrom 72 = .ok (.invokevirtual 63, 3) := by decide +kernel
theorem dX9_copyFrom_75 : decode cX9_copyFrom 75 = .ok (.aload_n 0, 1) := by decide +kernel
theorem dX9_copyFrom_76 : decode cX9_copyFrom 76 = .ok (.getfield 43, 3) := by decide +kernel
theorem dX9_copyFrom_79 : decode cX9_copyFrom 79 = .ok (.iload_n 2, 1) := by decide +kernel
theorem dX9_copyFrom_80 : decode cX9_copyFrom 80 = .ok (.aaload, 1) := by decide +kernel
theorem dX9_copyFrom_81 : decode cX9_copyFrom 81 = .ok (.aload_n 1, 1) := by decide +kernel
theorem dX9_copyFrom_82 : decode cX9_copyFrom 82 = .ok (.getfield 43, 3) := by decide +kernel
theorem dX9_copyFrom_85 : decode cX9_copyFrom 85 = .ok (.iload_n 2, 1) := by decide +kernel
theorem dX9_copyFrom_86 : decode cX9_copyFrom 86 = .ok (.aaload, 1) := by decide +kernel
theorem dX9_copyFrom_87 : decode cX9_copyFrom 87 = .ok (.invokevirtual 66, 3) := by decide +kernel
theorem dX9_copyFrom_90 : decode cX9_copyFrom 90 = .ok (.iinc 2 1, 3) := by decide +kernel
theorem dX9_copyFrom_93 : decode cX9_copyFrom 93 = .ok (.goto (-53), 3) := by decide +kernel
theorem dX9_copyFrom_96 : decode cX9_copyFrom 96 = .ok (.return_, 1) := by decide +kernel
theorem dX9_isSort_0 : decode cX9_isSort 0 = .ok (.iload_n 1, 1) := by decide +kernel
theorem dX9_isSort_1 : decode cX9_isSort 1 = .ok (.ifCond .lt 12, 3) := by decide +kernel
theorem dX9_isSort_4 : decode cX9_isSort 4 = .ok (.iload_n 1, 1) := by decide +kernel
theorem dX9_isSort_5 : decode cX9_isSort 5 = .ok (.iconst 3, 1) := by decide +kernel
theorem dX9_isSort_6 : decode cX9_isSort 6 = .ok (.if_icmp .ge 7, 3) := by decide +kernel
theorem dX9_isSort_9 : decode cX9_isSort 9 = .ok (.iconst 1, 1) := by decide +kernel
theorem dX9_isSort_10 : decode cX9_isSort 10 = .ok (.goto 4, 3) := by decide +kernel
theorem dX9_isSort_13 : decode cX9_isSort 13 = .ok (.iconst 0, 1) := by decide +kernel
theorem dX9_isSort_14 : decode cX9_isSort 14 = .ok (.ireturn, 1) := by decide +kernel
theorem dX9_howMany_0 : decode cX9_howMany 0 = .ok (.aload_n 0, 1) := by decide +kernel
theorem dX9_howMany_1 : decode cX9_howMany 1 = .ok (.getfield 25, 3) := by decide +kernel
theorem dX9_howMany_4 : decode cX9_howMany 4 = .ok (.iload_n 1, 1) := by decide +kernel
theorem dX9_howMany_5 : decode cX9_howMany 5 = .ok (.invokestatic 69, 3) := by decide +kernel
theorem dX9_howMany_8 : decode cX9_howMany 8 = .ok (.ireturn, 1) := by decide +kernel
theorem dX9_isTold_0 : decode cX9_isTold 0 = .ok (.iload_n 2, 1) := by decide +kernel
theorem dX9_isTold_1 : decode cX9_isTold 1 = .ok (.ifCond .lt 21, 3) := by decide +kernel
theorem dX9_isTold_4 : decode cX9_isTold 4 = .ok (.iload_n 2, 1) := by decide +kernel
theorem dX9_isTold_5 : decode cX9_isTold 5 = .ok (.aload_n 0, 1) := by decide +kernel
theorem dX9_isTold_6 : decode cX9_isTold 6 = .ok (.iload_n 1, 1) := by decide +kernel
theorem dX9_isTold_7 : decode cX9_isTold 7 = .ok (.invokevirtual 73, 3) := by decide +kernel
theorem dX9_isTold_10 : decode cX9_isTold 10 = .ok (.if_icmp .ge 12, 3) := by decide +kernel
theorem dX9_isTold_13 : decode cX9_isTold 13 = .ok (.iload_n 2, 1) := by decide +kernel
theorem dX9_isTold_14 : decode cX9_isTold 14 = .ok (.iconst 2, 1) := by decide +kernel
theorem dX9_isTold_15 : decode cX9_isTold 15 = .ok (.if_icmp .ge 7, 3) := by decide +kernel
theorem dX9_isTold_18 : decode cX9_isTold 18 = .ok (.iconst 1, 1) := by decide +kernel
theorem dX9_isTold_19 : decode cX9_isTold 19 = .ok (.goto 4, 3) := by decide +kernel
theorem dX9_isTold_22 : decode cX9_isTold 22 = .ok (.iconst 0, 1) := by decide +kernel
theorem dX9_isTold_23 : decode cX9_isTold 23 = .ok (.ireturn, 1) := by decide +kernel
theorem dX9_archiveAt_0 : decode cX9_archiveAt 0 = .ok (.aload_n 0, 1) := by decide +kernel
theorem dX9_archiveAt_1 : decode cX9_archiveAt 1 = .ok (.iconst 0, 1) := by decide +kernel
theorem dX9_archiveAt_2 : decode cX9_archiveAt 2 = .ok (.iload_n 1, 1) := by decide +kernel
theorem dX9_archiveAt_3 : decode cX9_archiveAt 3 = .ok (.invokevirtual 77, 3) := by decide +kernel
theorem dX9_archiveAt_6 : decode cX9_archiveAt 6 = .ok (.ifCond .eq 12, 3) := by decide +kernel
theorem dX9_archiveAt_9 : decode cX9_archiveAt 9 = .ok (.aload_n 0, 1) := by decide +kernel
theorem dX9_archiveAt_10 : decode cX9_archiveAt 10 = .ok (.getfield 31, 3) := by decide +kernel
theorem dX9_archiveAt_13 : decode cX9_archiveAt 13 = .ok (.iload_n 1, 1) := by decide +kernel
theorem dX9_archiveAt_14 : decode cX9_archiveAt 14 = .ok (.aaload, 1) := by decide +kernel
theorem dX9_archiveAt_15 : decode cX9_archiveAt 15 = .ok (.goto 4, 3) := by decide +kernel
theorem dX9_archiveAt_18 : decode cX9_archiveAt 18 = .ok (.aconst_null, 1) := by decide +kernel
theorem dX9_archiveAt_19 : decode cX9_archiveAt 19 = .ok (.areturn, 1) := by decide +kernel
theorem dX9_questionsAt_0 : decode cX9_questionsAt 0 = .ok (.aload_n 0, 1) := by decide +kernel
theorem dX9_questionsAt_1 : decode cX9_questionsAt 1 = .ok (.iconst 1, 1) := by decide +kernel
theorem dX9_questionsAt_2 : decode cX9_questionsAt 2 = .ok (.iload_n 1, 1) := by decide +kernel
theorem dX9_questionsAt_3 : decode cX9_questionsAt 3 = .ok (.invokevirtual 77, 3) := by decide +kernel
theorem dX9_questionsAt_6 : decode cX9_questionsAt 6 = .ok (.ifCond .eq 12, 3) := by decide +kernel
theorem dX9_questionsAt_9 : decode cX9_questionsAt 9 = .ok (.aload_n 0, 1) := by decide +kernel
theorem dX9_questionsAt_10 : decode cX9_questionsAt 10 = .ok (.getfield 37, 3) := by decide +kernel
theorem dX9_questionsAt_13 : decode cX9_questionsAt 13 = .ok (.iload_n 1, 1) := by decide +kernel
theorem dX9_questionsAt_14 : decode cX9_questionsAt 14 = .ok (.aaload, 1) := by decide +kernel
theorem dX9_questionsAt_15 : decode cX9_questionsAt 15 = .ok (.goto 4, 3) := by decide +kernel
theorem dX9_questionsAt_18 : decode cX9_questionsAt 18 = .ok (.aconst_null, 1) := by decide +kernel
theorem dX9_questionsAt_19 : decode cX9_questionsAt 19 = .ok (.areturn, 1) := by decide +kernel
theorem dX9_huntAt_0 : decode cX9_huntAt 0 = .ok (.aload_n 0, 1) := by decide +kernel
theorem dX9_huntAt_1 : decode cX9_huntAt 1 = .ok (.iconst 2, 1) := by decide +kernel
theorem dX9_huntAt_2 : decode cX9_huntAt 2 = .ok (.iload_n 1, 1) := by decide +kernel
theorem dX9_huntAt_3 : decode cX9_huntAt 3 = .ok (.invokevirtual 77, 3) := by decide +kernel
theorem dX9_huntAt_6 : decode cX9_huntAt 6 = .ok (.ifCond .eq 12, 3) := by decide +kernel
theorem dX9_huntAt_9 : decode cX9_huntAt 9 = .ok (.aload_n 0, 1) := by decide +kernel
theorem dX9_huntAt_10 : decode cX9_huntAt 10 = .ok (.getfield 43, 3) := by decide +kernel
theorem dX9_huntAt_13 : decode cX9_huntAt 13 = .ok (.iload_n 1, 1) := by decide +kernel
theorem dX9_huntAt_14 : decode cX9_huntAt 14 = .ok (.aaload, 1) := by decide +kernel
theorem dX9_huntAt_15 : decode cX9_huntAt 15 = .ok (.goto 4, 3) := by decide +kernel
theorem dX9_huntAt_18 : decode cX9_huntAt 18 = .ok (.aconst_null, 1) := by decide +kernel
theorem dX9_huntAt_19 : decode cX9_huntAt 19 = .ok (.areturn, 1) := by decide +kernel
theorem dX9_placeFor_0 : decode cX9_placeFor 0 = .ok (.aload_n 0, 1) := by decide +kernel
theorem dX9_placeFor_1 : decode cX9_placeFor 1 = .ok (.iload_n 1, 1) := by decide +kernel
theorem dX9_placeFor_2 : decode cX9_placeFor 2 = .ok (.invokevirtual 81, 3) := by decide +kernel
theorem dX9_placeFor_5 : decode cX9_placeFor 5 = .ok (.ifCond .ne 5, 3) := by decide +kernel
theorem dX9_placeFor_8 : decode cX9_placeFor 8 = .ok (.iconst (-1), 1) := by decide +kernel
theorem dX9_placeFor_9 : decode cX9_placeFor 9 = .ok (.ireturn, 1) := by decide +kernel
theorem dX9_placeFor_10 : decode cX9_placeFor 10 = .ok (.iload_n 2, 1) := by decide +kernel
theorem dX9_placeFor_11 : decode cX9_placeFor 11 = .ok (.iconst (-1), 1) := by decide +kernel
theorem dX9_placeFor_12 : decode cX9_placeFor 12 = .ok (.if_icmp .ne 22, 3) := by decide +kernel
theorem dX9_placeFor_15 : decode cX9_placeFor 15 = .ok (.aload_n 0, 1) := by decide +kernel
theorem dX9_placeFor_16 : decode cX9_placeFor 16 = .ok (.iload_n 1, 1) := by decide +kernel
theorem dX9_placeFor_17 : decode cX9_placeFor 17 = .ok (.invokevirtual 73, 3) := by decide +kernel
theorem dX9_placeFor_20 : decode cX9_placeFor 20 = .ok (.iconst 2, 1) := by decide +kernel
theorem dX9_placeFor_21 : decode cX9_placeFor 21 = .ok (.if_icmp .ge 11, 3) := by decide +kernel
theorem dX9_placeFor_24 : decode cX9_placeFor 24 = .ok (.aload_n 0, 1) := by decide +kernel
theorem dX9_placeFor_25 : decode cX9_placeFor 25 = .ok (.iload_n 1, 1) := by decide +kernel
theorem dX9_placeFor_26 : decode cX9_placeFor 26 = .ok (.invokevirtual 73, 3) := by decide +kernel
theorem dX9_placeFor_29 : decode cX9_placeFor 29 = .ok (.goto 4, 3) := by decide +kernel
theorem dX9_placeFor_32 : decode cX9_placeFor 32 = .ok (.iconst (-1), 1) := by decide +kernel
theorem dX9_placeFor_33 : decode cX9_placeFor 33 = .ok (.ireturn, 1) := by decide +kernel
theorem dX9_placeFor_34 : decode cX9_placeFor 34 = .ok (.aload_n 0, 1) := by decide +kernel
theorem dX9_placeFor_35 : decode cX9_placeFor 35 = .ok (.iload_n 1, 1) := by decide +kernel
theorem dX9_placeFor_36 : decode cX9_placeFor 36 = .ok (.iload_n 2, 1) := by decide +kernel
theorem dX9_placeFor_37 : decode cX9_placeFor 37 = .ok (.invokevirtual 77, 3) := by decide +kernel
theorem dX9_placeFor_40 : decode cX9_placeFor 40 = .ok (.ifCond .eq 7, 3) := by decide +kernel
theorem dX9_placeFor_43 : decode cX9_placeFor 43 = .ok (.iload_n 2, 1) := by decide +kernel
theorem dX9_placeFor_44 : decode cX9_placeFor 44 = .ok (.goto 4, 3) := by decide +kernel
theorem dX9_placeFor_47 : decode cX9_placeFor 47 = .ok (.iconst (-1), 1) := by decide +kernel
theorem dX9_placeFor_48 : decode cX9_placeFor 48 = .ok (.ireturn, 1) := by decide +kernel
theorem dX9_keep_0 : decode cX9_keep 0 = .ok (.iload_n 3, 1) := by decide +kernel
theorem dX9_keep_1 : decode cX9_keep 1 = .ok (.ifCond .lt 8, 3) := by decide +kernel
theorem dX9_keep_4 : decode cX9_keep 4 = .ok (.iload_n 3, 1) := by decide +kernel
theorem dX9_keep_5 : decode cX9_keep 5 = .ok (.iconst 2, 1) := by decide +kernel
theorem dX9_keep_6 : decode cX9_keep 6 = .ok (.if_icmp .lt 4, 3) := by decide +kernel
theorem dX9_keep_9 : decode cX9_keep 9 = .ok (.return_, 1) := by decide +kernel
theorem dX9_keep_10 : decode cX9_keep 10 = .ok (.iload_n 2, 1) := by decide +kernel
theorem dX9_keep_11 : decode cX9_keep 11 = .ok (.lookupswitch 57 #[(0, 25), (1, 41)], 25) := by decide +kernel
theorem dX9_keep_36 : decode cX9_keep 36 = .ok (.aload_n 0, 1) := by decide +kernel
theorem dX9_keep_37 : decode cX9_keep 37 = .ok (.getfield 31, 3) := by decide +kernel
theorem dX9_keep_40 : decode cX9_keep 40 = .ok (.iload_n 3, 1) := by decide +kernel
theorem dX9_keep_41 : decode cX9_keep 41 = .ok (.aaload, 1) := by decide +kernel
theorem dX9_keep_42 : decode cX9_keep 42 = .ok (.aload_n 1, 1) := by decide +kernel
theorem dX9_keep_43 : decode cX9_keep 43 = .ok (.getfield 85, 3) := by decide +kernel
theorem dX9_keep_46 : decode cX9_keep 46 = .ok (.invokevirtual 60, 3) := by decide +kernel
theorem dX9_keep_49 : decode cX9_keep 49 = .ok (.goto 32, 3) := by decide +kernel
theorem dX9_keep_52 : decode cX9_keep 52 = .ok (.aload_n 0, 1) := by decide +kernel
theorem dX9_keep_53 : decode cX9_keep 53 = .ok (.getfield 37, 3) := by decide +kernel
theorem dX9_keep_56 : decode cX9_keep 56 = .ok (.iload_n 3, 1) := by decide +kernel
theorem dX9_keep_57 : decode cX9_keep 57 = .ok (.aaload, 1) := by decide +kernel
theorem dX9_keep_58 : decode cX9_keep 58 = .ok (.aload_n 1, 1) := by decide +kernel
theorem dX9_keep_59 : decode cX9_keep 59 = .ok (.getfield 91, 3) := by decide +kernel
theorem dX9_keep_62 : decode cX9_keep 62 = .ok (.invokevirtual 63, 3) := by decide +kernel
theorem dX9_keep_65 : decode cX9_keep 65 = .ok (.goto 16, 3) := by decide +kernel
theorem dX9_keep_68 : decode cX9_keep 68 = .ok (.aload_n 0, 1) := by decide +kernel
theorem dX9_keep_69 : decode cX9_keep 69 = .ok (.getfield 43, 3) := by decide +kernel
theorem dX9_keep_72 : decode cX9_keep 72 = .ok (.iload_n 3, 1) := by decide +kernel
theorem dX9_keep_73 : decode cX9_keep 73 = .ok (.aaload, 1) := by decide +kernel
theorem dX9_keep_74 : decode cX9_keep 74 = .ok (.aload_n 1, 1) := by decide +kernel
theorem dX9_keep_75 : decode cX9_keep 75 = .ok (.getfield 94, 3) := by decide +kernel
theorem dX9_keep_78 : decode cX9_keep 78 = .ok (.invokevirtual 66, 3) := by decide +kernel
theorem dX9_keep_81 : decode cX9_keep 81 = .ok (.aload_n 0, 1) := by decide +kernel
theorem dX9_keep_82 : decode cX9_keep 82 = .ok (.getfield 25, 3) := by decide +kernel
theorem dX9_keep_85 : decode cX9_keep 85 = .ok (.iload_n 2, 1) := by decide +kernel
theorem dX9_keep_86 : decode cX9_keep 86 = .ok (.aload_n 0, 1) := by decide +kernel
theorem dX9_keep_87 : decode cX9_keep 87 = .ok (.iload_n 2, 1) := by decide +kernel
theorem dX9_keep_88 : decode cX9_keep 88 = .ok (.invokevirtual 73, 3) := by decide +kernel
theorem dX9_keep_91 : decode cX9_keep 91 = .ok (.iload_n 3, 1) := by decide +kernel
theorem dX9_keep_92 : decode cX9_keep 92 = .ok (.iconst 1, 1) := by decide +kernel
theorem dX9_keep_93 : decode cX9_keep 93 = .ok (.iadd, 1) := by decide +kernel
theorem dX9_keep_94 : decode cX9_keep 94 = .ok (.invokestatic 98, 3) := by decide +kernel
theorem dX9_keep_97 : decode cX9_keep 97 = .ok (.invokestatic 104, 3) := by decide +kernel
theorem dX9_keep_100 : decode cX9_keep 100 = .ok (.return_, 1) := by decide +kernel
theorem dX10_init_0 : decode cX10_init 0 = .ok (.aload_n 0, 1) := by decide +kernel
theorem dX10_init_1 : decode cX10_init 1 = .ok (.invokespecial 1, 3) := by decide +kernel
theorem dX10_init_4 : decode cX10_init 4 = .ok (.aload_n 0, 1) := by decide +kernel
theorem dX10_init_5 : decode cX10_init 5 = .ok (.sipush 600, 3) := by decide +kernel
theorem dX10_init_8 : decode cX10_init 8 = .ok (.newarray .byte, 2) := by decide +kernel
theorem dX10_init_10 : decode cX10_init 10 = .ok (.putfield 9, 3) := by decide +kernel
theorem dX10_init_13 : decode cX10_init 13 = .ok (.aload_n 0, 1) := by decide +kernel
theorem dX10_init_14 : decode cX10_init 14 = .ok (.iconst 0, 1) := by decide +kernel
theorem dX10_init_15 : decode cX10_init 15 = .ok (.putfield 13, 3) := by decide +kernel
theorem dX10_init_18 : decode cX10_init 18 = .ok (.aload_n 0, 1) := by decide +kernel
theorem dX10_init_19 : decode cX10_init 19 = .ok (.iconst 0, 1) := by decide +kernel
theorem dX10_init_20 : decode cX10_init 20 = .ok (.putfield 17, 3) := by decide +kernel
theorem dX10_init_23 : decode cX10_init 23 = .ok (.aload_n 0, 1) := by decide +kernel
theorem dX10_init_24 : decode cX10_init 24 = .ok (.iconst 0, 1) := by decide +kernel
theorem dX10_init_25 : decode cX10_init 25 = .ok (.putfield 20, 3) := by decide +kernel
theorem dX10_init_28 : decode cX10_init 28 = .ok (.aload_n 0, 1) := by decide +kernel
theorem dX10_init_29 : decode cX10_init 29 = .ok (.iconst 0, 1) := by decide +kernel
theorem dX10_init_30 : decode cX10_init 30 = .ok (.putfield 23, 3) := by decide +kernel
theorem dX10_init_33 : decode cX10_init 33 = .ok (.return_, 1) := by decide +kernel
theorem dX10_hasRoom_0 : decode cX10_hasRoom 0 = .ok (.aload_n 0, 1) := by decide +kernel
theorem dX10_hasRoom_1 : decode cX10_hasRoom 1 = .ok (.getfield 13, 3) := by decide +kernel
theorem dX10_hasRoom_4 : decode cX10_hasRoom 4 = .ok (.ifCond .lt 17, 3) := by decide +kernel
theorem dX10_hasRoom_7 : decode cX10_hasRoom 7 = .ok (.aload_n 0, 1) := by decide +kernel
theorem dX10_hasRoom_8 : decode cX10_hasRoom 8 = .ok (.getfield 13, 3) := by decide +kernel
theorem dX10_hasRoom_11 : decode cX10_hasRoom 11 = .ok (.sipush 580, 3) := by decide +kernel
theorem dX10_hasRoom_14 : decode cX10_hasRoom 14 = .ok (.if_icmp .gt 7, 3) := by decide +kernel
theorem dX10_hasRoom_17 : decode cX10_hasRoom 17 = .ok (.iconst 1, 1) := by decide +kernel
theorem dX10_hasRoom_18 : decode cX10_hasRoom 18 = .ok (.goto 4, 3) := by decide +kernel
theorem dX10_hasRoom_21 : decode cX10_hasRoom 21 = .ok (.iconst 0, 1) := by decide +kernel
theorem dX10_hasRoom_22 : decode cX10_hasRoom 22 = .ok (.ireturn, 1) := by decide +kernel
theorem dX10_add_0 : decode cX10_add 0 = .ok (.bipush 24, 2) := by decide +kernel
theorem dX10_add_2 : decode cX10_add 2 = .ok (.istore_n 2, 1) := by decide +kernel
theorem dX10_add_3 : decode cX10_add 3 = .ok (.iload_n 2, 1) := by decide +kernel
theorem dX10_add_4 : decode cX10_add 4 = .ok (.ifCond .lt 51, 3) := by decide +kernel
theorem dX10_add_7 : decode cX10_add 7 = .ok (.aload_n 0, 1) := by decide +kernel
theorem dX10_add_8 : decode cX10_add 8 = .ok (.getfield 13, 3) := by decide +kernel
theorem dX10_add_11 : decode cX10_add 11 = .ok (.ifCond .lt 38, 3) := by decide +kernel
theorem dX10_add_14 : decode cX10_add 14 = .ok (.aload_n 0, 1) := by decide +kernel
theorem dX10_add_15 : decode cX10_add 15 = .ok (.getfield 13, 3) := by decide +kernel
theorem dX10_add_18 : decode cX10_add 18 = .ok (.aload_n 0, 1) := by decide +kernel
theorem dX10_add_19 : decode cX10_add 19 = .ok (.getfield 9, 3) := by decide +kernel
theorem dX10_add_22 : decode cX10_add 22 = .ok (.arraylength, 1) := by decide +kernel
theorem dX10_add_23 : decode cX10_add 23 = .ok (.if_icmp .ge 26, 3) := by decide +kernel
theorem dX10_add_26 : decode cX10_add 26 = .ok (.aload_n 0, 1) := by decide +kernel
theorem dX10_add_27 : decode cX10_add 27 = .ok (.getfield 9, 3) := by decide +kernel
theorem dX10_add_30 : decode cX10_add 30 = .ok (.aload_n 0, 1) := by decide +kernel
theorem dX10_add_31 : decode cX10_add 31 = .ok (.getfield 13, 3) := by decide +kernel
theorem dX10_add_34 : decode cX10_add 34 = .ok (.iload_n 1, 1) := by decide +kernel
theorem dX10_add_35 : decode cX10_add 35 = .ok (.iload_n 2, 1) := by decide +kernel
theorem dX10_add_36 : decode cX10_add 36 = .ok (.iushr, 1) := by decide +kernel
theorem dX10_add_37 : decode cX10_add 37 = .ok (.i2b, 1) := by decide +kernel
theorem dX10_add_38 : decode cX10_add 38 = .ok (.bastore, 1) := by decide +kernel
theorem dX10_add_39 : decode cX10_add 39 = .ok (.aload_n 0, 1) := by decide +kernel
theorem dX10_add_40 : decode cX10_add 40 = .ok (.dup, 1) := by decide +kernel
theorem dX10_add_41 : decode cX10_add 41 = .ok (.getfield 13, 3) := by decide +kernel
theorem dX10_add_44 : decode cX10_add 44 = .ok (.iconst 1, 1) := by decide +kernel
theorem dX10_add_45 : decode cX10_add 45 = .ok (.iadd, 1) := by decide +kernel
theorem dX10_add_46 : decode cX10_add 46 = .ok (.putfield 13, 3) := by decide +kernel
theorem dX10_add_49 : decode cX10_add 49 = .ok (.iinc 2 (-8), 3) := by decide +kernel
theorem dX10_add_52 : decode cX10_add 52 = .ok (.goto (-49), 3) := by decide +kernel
theorem dX10_add_55 : decode cX10_add 55 = .ok (.return_, 1) := by decide +kernel
theorem dX10_copyFrom_0 : decode cX10_copyFrom 0 = .ok (.aload_n 1, 1) := by decide +kernel
theorem dX10_copyFrom_1 : decode cX10_copyFrom 1 = .ok (.getfield 9, 3) := by decide +kernel
theorem dX10_copyFrom_4 : decode cX10_copyFrom 4 = .ok (.iconst 0, 1) := by decide +kernel
theorem dX10_copyFrom_5 : decode cX10_copyFrom 5 = .ok (.aload_n 0, 1) := by decide +kernel
theorem dX10_copyFrom_6 : decode cX10_copyFrom 6 = .ok (.getfield 9, 3) := by decide +kernel
theorem dX10_copyFrom_9 : decode cX10_copyFrom 9 = .ok (.iconst 0, 1) := by decide +kernel
theorem dX10_copyFrom_10 : decode cX10_copyFrom 10 = .ok (.aload_n 1, 1) := by decide +kernel
theorem dX10_copyFrom_11 : decode cX10_copyFrom 11 = .ok (.getfield 9, 3) := by decide +kernel
theorem dX10_copyFrom_14 : decode cX10_copyFrom 14 = .ok (.arraylength, 1) := by decide +kernel
theorem dX10_copyFrom_15 : decode cX10_copyFrom 15 = .ok (.aload_n 0, 1) := by decide +kernel
theorem dX10_copyFrom_16 : decode cX10_copyFrom 16 = .ok (.getfield 9, 3) := by decide +kernel
theorem dX10_copyFrom_19 : decode cX10_copyFrom 19 = .ok (.arraylength, 1) := by decide +kernel
theorem dX10_copyFrom_20 : decode cX10_copyFrom 20 = .ok (.invokestatic 26, 3) := by decide +kernel
theorem dX10_copyFrom_23 : decode cX10_copyFrom 23 = .ok (.invokestatic 32, 3) := by decide +kernel
theorem dX10_copyFrom_26 : decode cX10_copyFrom 26 = .ok (.aload_n 0, 1) := by decide +kernel
theorem dX10_copyFrom_27 : decode cX10_copyFrom 27 = .ok (.aload_n 1, 1) := by decide +kernel
theorem dX10_copyFrom_28 : decode cX10_copyFrom 28 = .ok (.getfield 13, 3) := by decide +kernel
theorem dX10_copyFrom_31 : decode cX10_copyFrom 31 = .ok (.putfield 13, 3) := by decide +kernel
theorem dX10_copyFrom_34 : decode cX10_copyFrom 34 = .ok (.return_, 1) := by decide +kernel
theorem dX10_rewind_0 : decode cX10_rewind 0 = .ok (.aload_n 0, 1) := by decide +kernel
theorem dX10_rewind_1 : decode cX10_rewind 1 = .ok (.iconst 0, 1) := by decide +kernel
theorem dX10_rewind_2 : decode cX10_rewind 2 = .ok (.putfield 20, 3) := by decide +kernel
theorem dX10_rewind_5 : decode cX10_rewind 5 = .ok (.aload_n 0, 1) := by decide +kernel
theorem dX10_rewind_6 : decode cX10_rewind 6 = .ok (.iconst 0, 1) := by decide +kernel
theorem dX10_rewind_7 : decode cX10_rewind 7 = .ok (.putfield 23, 3) := by decide +kernel
theorem dX10_rewind_10 : decode cX10_rewind 10 = .ok (.aload_n 0, 1) := by decide +kernel
theorem dX10_rewind_11 : decode cX10_rewind 11 = .ok (.iconst 0, 1) := by decide +kernel
theorem dX10_rewind_12 : decode cX10_rewind 12 = .ok (.putfield 17, 3) := by decide +kernel
theorem dX10_rewind_15 : decode cX10_rewind 15 = .ok (.return_, 1) := by decide +kernel
theorem dX10_next_0 : decode cX10_next 0 = .ok (.aload_n 0, 1) := by decide +kernel
theorem dX10_next_1 : decode cX10_next 1 = .ok (.aload_n 0, 1) := by decide +kernel
theorem dX10_next_2 : decode cX10_next 2 = .ok (.getfield 23, 3) := by decide +kernel
theorem dX10_next_5 : decode cX10_next 5 = .ok (.putfield 20, 3) := by decide +kernel
theorem dX10_next_8 : decode cX10_next 8 = .ok (.aload_n 0, 1) := by decide +kernel
theorem dX10_next_9 : decode cX10_next 9 = .ok (.getfield 20, 3) := by decide +kernel
theorem dX10_next_12 : decode cX10_next 12 = .ok (.aload_n 0, 1) := by decide +kernel
theorem dX10_next_13 : decode cX10_next 13 = .ok (.getfield 13, 3) := by decide +kernel
theorem dX10_next_16 : decode cX10_next 16 = .ok (.if_icmp .ge 30, 3) := by decide +kernel
theorem dX10_next_19 : decode cX10_next 19 = .ok (.aload_n 0, 1) := by decide +kernel
theorem dX10_next_20 : decode cX10_next 20 = .ok (.aload_n 0, 1) := by decide +kernel
theorem dX10_next_21 : decode cX10_next 21 = .ok (.getfield 20, 3) := by decide +kernel
theorem dX10_next_24 : decode cX10_next 24 = .ok (.invokevirtual 38, 3) := by decide +kernel
theorem dX10_next_27 : decode cX10_next 27 = .ok (.invokestatic 42, 3) := by decide +kernel
theorem dX10_next_30 : decode cX10_next 30 = .ok (.ifCond .eq 16, 3) := by decide +kernel
theorem dX10_next_33 : decode cX10_next 33 = .ok (.aload_n 0, 1) := by decide +kernel
theorem dX10_next_34 : decode cX10_next 34 = .ok (.dup, 1) := by decide +kernel
theorem dX10_next_35 : decode cX10_next 35 = .ok (.getfield 20, 3) := by decide +kernel
theorem dX10_next_38 : decode cX10_next 38 = .ok (.iconst 1, 1) := by decide +kernel
theorem dX10_next_39 : decode cX10_next 39 = .ok (.iadd, 1) := by decide +kernel
theorem dX10_next_40 : decode cX10_next 40 = .ok (.putfield 20, 3) := by decide +kernel
theorem dX10_next_43 : decode cX10_next 43 = .ok (.goto (-35), 3) := by decide +kernel
theorem dX10_next_46 : decode cX10_next 46 = .ok (.aload_n 0, 1) := by decide +kernel
theorem dX10_next_47 : decode cX10_next 47 = .ok (.aload_n 0, 1) := by decide +kernel
theorem dX10_next_48 : decode cX10_next 48 = .ok (.getfield 20, 3) := by decide +kernel
theorem dX10_next_51 : decode cX10_next 51 = .ok (.putfield 23, 3) := by decide +kernel
theorem dX10_next_54 : decode cX10_next 54 = .ok (.aload_n 0, 1) := by decide +kernel
theorem dX10_next_55 : decode cX10_next 55 = .ok (.getfield 20, 3) := by decide +kernel
theorem dX10_next_58 : decode cX10_next 58 = .ok (.aload_n 0, 1) := by decide +kernel
theorem dX10_next_59 : decode cX10_next 59 = .ok (.getfield 13, 3) := by decide +kernel
theorem dX10_next_62 : decode cX10_next 62 = .ok (.if_icmp .lt 11, 3) := by decide +kernel
theorem dX10_next_65 : decode cX10_next 65 = .ok (.aload_n 0, 1) := by decide +kernel
theorem dX10_next_66 : decode cX10_next 66 = .ok (.iconst 0, 1) := by decide +kernel
theorem dX10_next_67 : decode cX10_next 67 = .ok (.putfield 17, 3) := by decide +kernel
theorem dX10_next_70 : decode cX10_next 70 = .ok (.goto 169, 3) := by decide +kernel
theorem dX10_next_73 : decode cX10_next 73 = .ok (.aload_n 0, 1) := by decide +kernel
theorem dX10_next_74 : decode cX10_next 74 = .ok (.aload_n 0, 1) := by decide +kernel
theorem dX10_next_75 : decode cX10_next 75 = .ok (.getfield 20, 3) := by decide +kernel
theorem dX10_next_78 : decode cX10_next 78 = .ok (.invokevirtual 38, 3) := by decide +kernel
theorem dX10_next_81 : decode cX10_next 81 = .ok (.invokestatic 46, 3) := by decide +kernel
theorem dX10_next_84 : decode cX10_next 84 = .ok (.ifCond .eq 46, 3) := by decide +kernel
theorem dX10_next_87 : decode cX10_next 87 = .ok (.aload_n 0, 1) := by decide +kernel
theorem dX10_next_88 : decode cX10_next 88 = .ok (.iconst 1, 1) := by decide +kernel
theorem dX10_next_89 : decode cX10_next 89 = .ok (.putfield 17, 3) := by decide +kernel
theorem dX10_next_92 : decode cX10_next 92 = .ok (.aload_n 0, 1) := by decide +kernel
theorem dX10_next_93 : decode cX10_next 93 = .ok (.getfield 23, 3) := by decide +kernel
theorem dX10_next_96 : decode cX10_next 96 = .ok (.aload_n 0, 1) := by decide +kernel
theorem dX10_next_97 : decode cX10_next 97 = .ok (.getfield 13, 3) := by decide +kernel
theorem dX10_next_100 : decode cX10_next 100 = .ok (.if_icmp .ge 139, 3) := by decide +kernel
theorem dX10_next_103 : decode cX10_next 103 = .ok (.aload_n 0, 1) := by decide +kernel
theorem dX10_next_104 : decode cX10_next 104 = .ok (.aload_n 0, 1) := by decide +kernel
theorem dX10_next_105 : decode cX10_next 105 = .ok (.getfield 23, 3) := by decide +kernel
theorem dX10_next_108 : decode cX10_next 108 = .ok (.invokevirtual 38, 3) := by decide +kernel
theorem dX10_next_111 : decode cX10_next 111 = .ok (.invokestatic 46, 3) := by decide +kernel
theorem dX10_next_114 : decode cX10_next 114 = .ok (.ifCond .eq 125, 3) := by decide +kernel
theorem dX10_next_117 : decode cX10_next 117 = .ok (.aload_n 0, 1) := by decide +kernel
theorem dX10_next_118 : decode cX10_next 118 = .ok (.dup, 1) := by decide +kernel
theorem dX10_next_119 : decode cX10_next 119 = .ok (.getfield 23, 3) := by decide +kernel
theorem dX10_next_122 : decode cX10_next 122 = .ok (.iconst 1, 1) := by decide +kernel
theorem dX10_next_123 : decode cX10_next 123 = .ok (.iadd, 1) := by decide +kernel
theorem dX10_next_124 : decode cX10_next 124 = .ok (.putfield 23, 3) := by decide +kernel
theorem dX10_next_127 : decode cX10_next 127 = .ok (.goto (-35), 3) := by decide +kernel
theorem dX10_next_130 : decode cX10_next 130 = .ok (.aload_n 0, 1) := by decide +kernel
theorem dX10_next_131 : decode cX10_next 131 = .ok (.aload_n 0, 1) := by decide +kernel
theorem dX10_next_132 : decode cX10_next 132 = .ok (.getfield 20, 3) := by decide +kernel
theorem dX10_next_135 : decode cX10_next 135 = .ok (.invokevirtual 38, 3) := by decide +kernel
theorem dX10_next_138 : decode cX10_next 138 = .ok (.invokestatic 49, 3) := by decide +kernel
theorem dX10_next_141 : decode cX10_next 141 = .ok (.ifCond .eq 66, 3) := by decide +kernel
theorem dX10_next_144 : decode cX10_next 144 = .ok (.aload_n 0, 1) := by decide +kernel
theorem dX10_next_145 : decode cX10_next 145 = .ok (.getfield 23, 3) := by decide +kernel
theorem dX10_next_148 : decode cX10_next 148 = .ok (.aload_n 0, 1) := by decide +kernel
theorem dX10_next_149 : decode cX10_next 149 = .ok (.getfield 13, 3) := by decide +kernel
theorem dX10_next_152 : decode cX10_next 152 = .ok (.if_icmp .ge 30, 3) := by decide +kernel
theorem dX10_next_155 : decode cX10_next 155 = .ok (.aload_n 0, 1) := by decide +kernel
theorem dX10_next_156 : decode cX10_next 156 = .ok (.aload_n 0, 1) := by decide +kernel
theorem dX10_next_157 : decode cX10_next 157 = .ok (.getfield 23, 3) := by decide +kernel
theorem dX10_next_160 : decode cX10_next 160 = .ok (.invokevirtual 38, 3) := by decide +kernel
theorem dX10_next_163 : decode cX10_next 163 = .ok (.invokestatic 49, 3) := by decide +kernel
theorem dX10_next_166 : decode cX10_next 166 = .ok (.ifCond .eq 16, 3) := by decide +kernel
theorem dX10_next_169 : decode cX10_next 169 = .ok (.aload_n 0, 1) := by decide +kernel
theorem dX10_next_170 : decode cX10_next 170 = .ok (.dup, 1) := by decide +kernel
theorem dX10_next_171 : decode cX10_next 171 = .ok (.getfield 23, 3) := by decide +kernel
theorem dX10_next_174 : decode cX10_next 174 = .ok (.iconst 1, 1) := by decide +kernel
theorem dX10_next_175 : decode cX10_next 175 = .ok (.iadd, 1) := by decide +kernel
theorem dX10_next_176 : decode cX10_next 176 = .ok (.putfield 23, 3) := by decide +kernel
theorem dX10_next_179 : decode cX10_next 179 = .ok (.goto (-35), 3) := by decide +kernel
theorem dX10_next_182 : decode cX10_next 182 = .ok (.aload_n 0, 1) := by decide +kernel
theorem dX10_next_183 : decode cX10_next 183 = .ok (.aload_n 0, 1) := by decide +kernel
theorem dX10_next_184 : decode cX10_next 184 = .ok (.getfield 23, 3) := by decide +kernel
theorem dX10_next_187 : decode cX10_next 187 = .ok (.aload_n 0, 1) := by decide +kernel
theorem dX10_next_188 : decode cX10_next 188 = .ok (.getfield 20, 3) := by decide +kernel
theorem dX10_next_191 : decode cX10_next 191 = .ok (.isub, 1) := by decide +kernel
theorem dX10_next_192 : decode cX10_next 192 = .ok (.iconst 2, 1) := by decide +kernel
theorem dX10_next_193 : decode cX10_next 193 = .ok (.if_icmp .gt 7, 3) := by decide +kernel
theorem dX10_next_196 : decode cX10_next 196 = .ok (.iconst 2, 1) := by decide +kernel
theorem dX10_next_197 : decode cX10_next 197 = .ok (.goto 4, 3) := by decide +kernel
theorem dX10_next_200 : decode cX10_next 200 = .ok (.iconst 4, 1) := by decide +kernel
theorem dX10_next_201 : decode cX10_next 201 = .ok (.putfield 17, 3) := by decide +kernel
theorem dX10_next_204 : decode cX10_next 204 = .ok (.goto 35, 3) := by decide +kernel
theorem dX10_next_207 : decode cX10_next 207 = .ok (.aload_n 0, 1) := by decide +kernel
theorem dX10_next_208 : decode cX10_next 208 = .ok (.aload_n 0, 1) := by decide +kernel
theorem dX10_next_209 : decode cX10_next 209 = .ok (.aload_n 0, 1) := by decide +kernel
theorem dX10_next_210 : decode cX10_next 210 = .ok (.getfield 20, 3) := by decide +kernel
theorem dX10_next_213 : decode cX10_next 213 = .ok (.invokevirtual 38, 3) := by decide +kernel
theorem dX10_next_216 : decode cX10_next 216 = .ok (.bipush 59, 2) := by decide +kernel
theorem dX10_next_218 : decode cX10_next 218 = .ok (.if_icmp .ne 7, 3) := by decide +kernel
theorem dX10_next_221 : decode cX10_next 221 = .ok (.iconst 3, 1) := by decide +kernel
theorem dX10_next_222 : decode cX10_next 222 = .ok (.goto 4, 3) := by decide +kernel
theorem dX10_next_225 : decode cX10_next 225 = .ok (.iconst 4, 1) := by decide +kernel
theorem dX10_next_226 : decode cX10_next 226 = .ok (.putfield 17, 3) := by decide +kernel
theorem dX10_next_229 : decode cX10_next 229 = .ok (.aload_n 0, 1) := by decide +kernel
theorem dX10_next_230 : decode cX10_next 230 = .ok (.dup, 1) := by decide +kernel
theorem dX10_next_231 : decode cX10_next 231 = .ok (.getfield 23, 3) := by decide +kernel
theorem dX10_next_234 : decode cX10_next 234 = .ok (.iconst 1, 1) := by decide +kernel
theorem dX10_next_235 : decode cX10_next 235 = .ok (.iadd, 1) := by decide +kernel
theorem dX10_next_236 : decode cX10_next 236 = .ok (.putfield 23, 3) := by decide +kernel
theorem dX10_next_239 : decode cX10_next 239 = .ok (.return_, 1) := by decide +kernel
theorem dX10_tokenIs_0 : decode cX10_tokenIs 0 = .ok (.aload_n 0, 1) := by decide +kernel
theorem dX10_tokenIs_1 : decode cX10_tokenIs 1 = .ok (.getfield 17, 3) := by decide +kernel
theorem dX10_tokenIs_4 : decode cX10_tokenIs 4 = .ok (.iconst 1, 1) := by decide +kernel
theorem dX10_tokenIs_5 : decode cX10_tokenIs 5 = .ok (.if_icmp .ne 19, 3) := by decide +kernel
theorem dX10_tokenIs_8 : decode cX10_tokenIs 8 = .ok (.aload_n 0, 1) := by decide +kernel
theorem dX10_tokenIs_9 : decode cX10_tokenIs 9 = .ok (.getfield 23, 3) := by decide +kernel
theorem dX10_tokenIs_12 : decode cX10_tokenIs 12 = .ok (.aload_n 0, 1) := by decide +kernel
theorem dX10_tokenIs_13 : decode cX10_tokenIs 13 = .ok (.getfield 20, 3) := by decide +kernel
theorem dX10_tokenIs_16 : decode cX10_tokenIs 16 = .ok (.isub, 1) := by decide +kernel
theorem dX10_tokenIs_17 : decode cX10_tokenIs 17 = .ok (.aload_n 1, 1) := by decide +kernel
theorem dX10_tokenIs_18 : decode cX10_tokenIs 18 = .ok (.invokevirtual 52, 3) := by decide +kernel
theorem dX10_tokenIs_21 : decode cX10_tokenIs 21 = .ok (.if_icmp .eq 5, 3) := by decide +kernel
theorem dX10_tokenIs_24 : decode cX10_tokenIs 24 = .ok (.iconst 0, 1) := by decide +kernel
theorem dX10_tokenIs_25 : decode cX10_tokenIs 25 = .ok (.ireturn, 1) := by decide +kernel
theorem dX10_tokenIs_26 : decode cX10_tokenIs 26 = .ok (.iconst 0, 1) := by decide +kernel
theorem dX10_tokenIs_27 : decode cX10_tokenIs 27 = .ok (.istore_n 2, 1) := by decide +kernel
theorem dX10_tokenIs_28 : decode cX10_tokenIs 28 = .ok (.iload_n 2, 1) := by decide +kernel
theorem dX10_tokenIs_29 : decode cX10_tokenIs 29 = .ok (.aload_n 1, 1) := by decide +kernel
theorem dX10_tokenIs_30 : decode cX10_tokenIs 30 = .ok (.invokevirtual 52, 3) := by decide +kernel
theorem dX10_tokenIs_33 : decode cX10_tokenIs 33 = .ok (.if_icmp .ge 29, 3) := by decide +kernel
theorem dX10_tokenIs_36 : decode cX10_tokenIs 36 = .ok (.aload_n 0, 1) := by decide +kernel
theorem dX10_tokenIs_37 : decode cX10_tokenIs 37 = .ok (.aload_n 0, 1) := by decide +kernel
theorem dX10_tokenIs_38 : decode cX10_tokenIs 38 = .ok (.getfield 20, 3) := by decide +kernel
theorem dX10_tokenIs_41 : decode cX10_tokenIs 41 = .ok (.iload_n 2, 1) := by decide +kernel
theorem dX10_tokenIs_42 : decode cX10_tokenIs 42 = .ok (.iadd, 1) := by decide +kernel
theorem dX10_tokenIs_43 : decode cX10_tokenIs 43 = .ok (.invokevirtual 38, 3) := by decide +kernel
theorem dX10_tokenIs_46 : decode cX10_tokenIs 46 = .ok (.aload_n 1, 1) := by decide +kernel
theorem dX10_tokenIs_47 : decode cX10_tokenIs 47 = .ok (.iload_n 2, 1) := by decide +kernel
theorem dX10_tokenIs_48 : decode cX10_tokenIs 48 = .ok (.invokevirtual 57, 3) := by decide +kernel
theorem dX10_tokenIs_51 : decode cX10_tokenIs 51 = .ok (.if_icmp .eq 5, 3) := by decide +kernel
theorem dX10_tokenIs_54 : decode cX10_tokenIs 54 = .ok (.iconst 0, 1) := by decide +kernel
theorem dX10_tokenIs_55 : decode cX10_tokenIs 55 = .ok (.ireturn, 1) := by decide +kernel
theorem dX10_tokenIs_56 : decode cX10_tokenIs 56 = .ok (.iinc 2 1, 3) := by decide +kernel
theorem dX10_tokenIs_59 : decode cX10_tokenIs 59 = .ok (.goto (-31), 3) := by decide +kernel
theorem dX10_tokenIs_62 : decode cX10_tokenIs 62 = .ok (.iconst 1, 1) := by decide +kernel
theorem dX10_tokenIs_63 : decode cX10_tokenIs 63 = .ok (.ireturn, 1) := by decide +kernel
theorem dX10_number_0 : decode cX10_number 0 = .ok (.iconst 0, 1) := by decide +kernel
theorem dX10_number_1 : decode cX10_number 1 = .ok (.istore_n 1, 1) := by decide +kernel
theorem dX10_number_2 : decode cX10_number 2 = .ok (.aload_n 0, 1) := by decide +kernel
theorem dX10_number_3 : decode cX10_number 3 = .ok (.getfield 20, 3) := by decide +kernel
theorem dX10_number_6 : decode cX10_number 6 = .ok (.istore_n 2, 1) := by decide +kernel
theorem dX10_number_7 : decode cX10_number 7 = .ok (.iload_n 2, 1) := by decide +kernel
theorem dX10_number_8 : decode cX10_number 8 = .ok (.aload_n 0, 1) := by decide +kernel
theorem dX10_number_9 : decode cX10_number 9 = .ok (.getfield 23, 3) := by decide +kernel
theorem dX10_number_12 : decode cX10_number 12 = .ok (.if_icmp .ge 23, 3) := by decide +kernel
theorem dX10_number_15 : decode cX10_number 15 = .ok (.iload_n 1, 1) := by decide +kernel
theorem dX10_number_16 : decode cX10_number 16 = .ok (.bipush 10, 2) := by decide +kernel
theorem dX10_number_18 : decode cX10_number 18 = .ok (.imul, 1) := by decide +kernel
theorem dX10_number_19 : decode cX10_number 19 = .ok (.aload_n 0, 1) := by decide +kernel
theorem dX10_number_20 : decode cX10_number 20 = .ok (.iload_n 2, 1) := by decide +kernel
theorem dX10_number_21 : decode cX10_number 21 = .ok (.invokevirtual 38, 3) := by decide +kernel
theorem dX10_number_24 : decode cX10_number 24 = .ok (.iadd, 1) := by decide +kernel
theorem dX10_number_25 : decode cX10_number 25 = .ok (.bipush 48, 2) := by decide +kernel
theorem dX10_number_27 : decode cX10_number 27 = .ok (.isub, 1) := by decide +kernel
theorem dX10_number_28 : decode cX10_number 28 = .ok (.istore_n 1, 1) := by decide +kernel
theorem dX10_number_29 : decode cX10_number 29 = .ok (.iinc 2 1, 3) := by decide +kernel
theorem dX10_number_32 : decode cX10_number 32 = .ok (.goto (-25), 3) := by decide +kernel
theorem dX10_number_35 : decode cX10_number 35 = .ok (.iload_n 1, 1) := by decide +kernel
theorem dX10_number_36 : decode cX10_number 36 = .ok (.ireturn, 1) := by decide +kernel
theorem dX10_isWord_0 : decode cX10_isWord 0 = .ok (.aload_n 0, 1) := by decide +kernel
theorem dX10_isWord_1 : decode cX10_isWord 1 = .ok (.getfield 17, 3) := by decide +kernel
theorem dX10_isWord_4 : decode cX10_isWord 4 = .ok (.iconst 1, 1) := by decide +kernel
theorem dX10_isWord_5 : decode cX10_isWord 5 = .ok (.if_icmp .ne 20, 3) := by decide +kernel
theorem dX10_isWord_8 : decode cX10_isWord 8 = .ok (.aload_n 0, 1) := by decide +kernel
theorem dX10_isWord_9 : decode cX10_isWord 9 = .ok (.getfield 23, 3) := by decide +kernel
theorem dX10_isWord_12 : decode cX10_isWord 12 = .ok (.aload_n 0, 1) := by decide +kernel
theorem dX10_isWord_13 : decode cX10_isWord 13 = .ok (.getfield 20, 3) := by decide +kernel
theorem dX10_isWord_16 : decode cX10_isWord 16 = .ok (.isub, 1) := by decide +kernel
theorem dX10_isWord_17 : decode cX10_isWord 17 = .ok (.iconst 4, 1) := by decide +kernel
theorem dX10_isWord_18 : decode cX10_isWord 18 = .ok (.if_icmp .gt 7, 3) := by decide +kernel
theorem dX10_isWord_21 : decode cX10_isWord 21 = .ok (.iconst 1, 1) := by decide +kernel
theorem dX10_isWord_22 : decode cX10_isWord 22 = .ok (.goto 4, 3) := by decide +kernel
theorem dX10_isWord_25 : decode cX10_isWord 25 = .ok (.iconst 0, 1) := by decide +kernel
theorem dX10_isWord_26 : decode cX10_isWord 26 = .ok (.ireturn, 1) := by decide +kernel
theorem dX10_spelling_0 : decode cX10_spelling 0 = .ok (.iconst 0, 1) := by decide +kernel
theorem dX10_spelling_1 : decode cX10_spelling 1 = .ok (.istore_n 1, 1) := by decide +kernel
theorem dX10_spelling_2 : decode cX10_spelling 2 = .ok (.iconst 0, 1) := by decide +kernel
theorem dX10_spelling_3 : decode cX10_spelling 3 = .ok (.istore_n 2, 1) := by decide +kernel
theorem dX10_spelling_4 : decode cX10_spelling 4 = .ok (.iload_n 2, 1) := by decide +kernel
theorem dX10_spelling_5 : decode cX10_spelling 5 = .ok (.iconst 4, 1) := by decide +kernel
theorem dX10_spelling_6 : decode cX10_spelling 6 = .ok (.if_icmp .ge 47, 3) := by decide +kernel
theorem dX10_spelling_9 : decode cX10_spelling 9 = .ok (.iload_n 1, 1) := by decide +kernel
theorem dX10_spelling_10 : decode cX10_spelling 10 = .ok (.bipush 27, 2) := by decide +kernel
theorem dX10_spelling_12 : decode cX10_spelling 12 = .ok (.imul, 1) := by decide +kernel
theorem dX10_spelling_13 : decode cX10_spelling 13 = .ok (.aload_n 0, 1) := by decide +kernel
theorem dX10_spelling_14 : decode cX10_spelling 14 = .ok (.getfield 20, 3) := by decide +kernel
theorem dX10_spelling_17 : decode cX10_spelling 17 = .ok (.iload_n 2, 1) := by decide +kernel
theorem dX10_spelling_18 : decode cX10_spelling 18 = .ok (.iadd, 1) := by decide +kernel
theorem dX10_spelling_19 : decode cX10_spelling 19 = .ok (.aload_n 0, 1) := by decide +kernel
theorem dX10_spelling_20 : decode cX10_spelling 20 = .ok (.getfield 23, 3) := by decide +kernel
theorem dX10_spelling_23 : decode cX10_spelling 23 = .ok (.if_icmp .ge 21, 3) := by decide +kernel
theorem dX10_spelling_26 : decode cX10_spelling 26 = .ok (.aload_n 0, 1) := by decide +kernel
theorem dX10_spelling_27 : decode cX10_spelling 27 = .ok (.aload_n 0, 1) := by decide +kernel
theorem dX10_spelling_28 : decode cX10_spelling 28 = .ok (.getfield 20, 3) := by decide +kernel
theorem dX10_spelling_31 : decode cX10_spelling 31 = .ok (.iload_n 2, 1) := by decide +kernel
theorem dX10_spelling_32 : decode cX10_spelling 32 = .ok (.iadd, 1) := by decide +kernel
theorem dX10_spelling_33 : decode cX10_spelling 33 = .ok (.invokevirtual 38, 3) := by decide +kernel
theorem dX10_spelling_36 : decode cX10_spelling 36 = .ok (.bipush 97, 2) := by decide +kernel
theorem dX10_spelling_38 : decode cX10_spelling 38 = .ok (.isub, 1) := by decide +kernel
theorem dX10_spelling_39 : decode cX10_spelling 39 = .ok (.iconst 1, 1) := by decide +kernel
theorem dX10_spelling_40 : decode cX10_spelling 40 = .ok (.iadd, 1) := by decide +kernel
theorem dX10_spelling_41 : decode cX10_spelling 41 = .ok (.goto 4, 3) := by decide +kernel
theorem dX10_spelling_44 : decode cX10_spelling 44 = .ok (.iconst 0, 1) := by decide +kernel
theorem dX10_spelling_45 : decode cX10_spelling 45 = .ok (.iadd, 1) := by decide +kernel
theorem dX10_spelling_46 : decode cX10_spelling 46 = .ok (.istore_n 1, 1) := by decide +kernel
theorem dX10_spelling_47 : decode cX10_spelling 47 = .ok (.iinc 2 1, 3) := by decide +kernel
theorem dX10_spelling_50 : decode cX10_spelling 50 = .ok (.goto (-46), 3) := by decide +kernel
theorem dX10_spelling_53 : decode cX10_spelling 53 = .ok (.iload_n 1, 1) := by decide +kernel
theorem dX10_spelling_54 : decode cX10_spelling 54 = .ok (.ireturn, 1) := by decide +kernel
theorem dX10_byteAt_0 : decode cX10_byteAt 0 = .ok (.iload_n 1, 1) := by decide +kernel
theorem dX10_byteAt_1 : decode cX10_byteAt 1 = .ok (.ifCond .lt 21, 3) := by decide +kernel
theorem dX10_byteAt_4 : decode cX10_byteAt 4 = .ok (.iload_n 1, 1) := by decide +kernel
theorem dX10_byteAt_5 : decode cX10_byteAt 5 = .ok (.aload_n 0, 1) := by decide +kernel
theorem dX10_byteAt_6 : decode cX10_byteAt 6 = .ok (.getfield 9, 3) := by decide +kernel
theorem dX10_byteAt_9 : decode cX10_byteAt 9 = .ok (.arraylength, 1) := by decide +kernel
theorem dX10_byteAt_10 : decode cX10_byteAt 10 = .ok (.if_icmp .ge 12, 3) := by decide +kernel
theorem dX10_byteAt_13 : decode cX10_byteAt 13 = .ok (.aload_n 0, 1) := by decide +kernel
theorem dX10_byteAt_14 : decode cX10_byteAt 14 = .ok (.getfield 9, 3) := by decide +kernel
theorem dX10_byteAt_17 : decode cX10_byteAt 17 = .ok (.iload_n 1, 1) := by decide +kernel
theorem dX10_byteAt_18 : decode cX10_byteAt 18 = .ok (.baload, 1) := by decide +kernel
theorem dX10_byteAt_19 : decode cX10_byteAt 19 = .ok (.goto 4, 3) := by decide +kernel
theorem dX10_byteAt_22 : decode cX10_byteAt 22 = .ok (.iconst 0, 1) := by decide +kernel
theorem dX10_byteAt_23 : decode cX10_byteAt 23 = .ok (.ireturn, 1) := by decide +kernel
theorem dX10_isBlank_0 : decode cX10_isBlank 0 = .ok (.iload_n 0, 1) := by decide +kernel
theorem dX10_isBlank_1 : decode cX10_isBlank 1 = .ok (.bipush 10, 2) := by decide +kernel
theorem dX10_isBlank_3 : decode cX10_isBlank 3 = .ok (.if_icmp .eq 9, 3) := by decide +kernel
theorem dX10_isBlank_6 : decode cX10_isBlank 6 = .ok (.iload_n 0, 1) := by decide +kernel
theorem dX10_isBlank_7 : decode cX10_isBlank 7 = .ok (.bipush 32, 2) := by decide +kernel
theorem dX10_isBlank_9 : decode cX10_isBlank 9 = .ok (.if_icmp .ne 7, 3) := by decide +kernel
theorem dX10_isBlank_12 : decode cX10_isBlank 12 = .ok (.iconst 1, 1) := by decide +kernel
theorem dX10_isBlank_13 : decode cX10_isBlank 13 = .ok (.goto 4, 3) := by decide +kernel
theorem dX10_isBlank_16 : decode cX10_isBlank 16 = .ok (.iconst 0, 1) := by decide +kernel
theorem dX10_isBlank_17 : decode cX10_isBlank 17 = .ok (.ireturn, 1) := by decide +kernel
theorem dX10_isLetter_0 : decode cX10_isLetter 0 = .ok (.iload_n 0, 1) := by decide +kernel
theorem dX10_isLetter_1 : decode cX10_isLetter 1 = .ok (.bipush 97, 2) := by decide +kernel
theorem dX10_isLetter_3 : decode cX10_isLetter 3 = .ok (.if_icmp .lt 13, 3) := by decide +kernel
theorem dX10_isLetter_6 : decode cX10_isLetter 6 = .ok (.iload_n 0, 1) := by decide +kernel
theorem dX10_isLetter_7 : decode cX10_isLetter 7 = .ok (.bipush 122, 2) := by decide +kernel
theorem dX10_isLetter_9 : decode cX10_isLetter 9 = .ok (.if_icmp .gt 7, 3) := by decide +kernel
theorem dX10_isLetter_12 : decode cX10_isLetter 12 = .ok (.iconst 1, 1) := by decide +kernel
theorem dX10_isLetter_13 : decode cX10_isLetter 13 = .ok (.goto 4, 3) := by decide +kernel
theorem dX10_isLetter_16 : decode cX10_isLetter 16 = .ok (.iconst 0, 1) := by decide +kernel
theorem dX10_isLetter_17 : decode cX10_isLetter 17 = .ok (.ireturn, 1) := by decide +kernel
theorem dX10_isDigit_0 : decode cX10_isDigit 0 = .ok (.iload_n 0, 1) := by decide +kernel
theorem dX10_isDigit_1 : decode cX10_isDigit 1 = .ok (.bipush 48, 2) := by decide +kernel
theorem dX10_isDigit_3 : decode cX10_isDigit 3 = .ok (.if_icmp .lt 13, 3) := by decide +kernel
theorem dX10_isDigit_6 : decode cX10_isDigit 6 = .ok (.iload_n 0, 1) := by decide +kernel
theorem dX10_isDigit_7 : decode cX10_isDigit 7 = .ok (.bipush 57, 2) := by decide +kernel
theorem dX10_isDigit_9 : decode cX10_isDigit 9 = .ok (.if_icmp .gt 7, 3) := by decide +kernel
theorem dX10_isDigit_12 : decode cX10_isDigit 12 = .ok (.iconst 1, 1) := by decide +kernel
theorem dX10_isDigit_13 : decode cX10_isDigit 13 = .ok (.goto 4, 3) := by decide +kernel
theorem dX10_isDigit_16 : decode cX10_isDigit 16 = .ok (.iconst 0, 1) := by decide +kernel
theorem dX10_isDigit_17 : decode cX10_isDigit 17 = .ok (.ireturn, 1) := by decide +kernel
theorem dX11_init_0 : decode cX11_init 0 = .ok (.aload_n 0, 1) := by decide +kernel
theorem dX11_init_1 : decode cX11_init 1 = .ok (.invokespecial 1, 3) := by decide +kernel
theorem dX11_init_4 : decode cX11_init 4 = .ok (.aload_n 0, 1) := by decide +kernel
theorem dX11_init_5 : decode cX11_init 5 = .ok (.new 7, 3) := by decide +kernel
theorem dX11_init_8 : decode cX11_init 8 = .ok (.dup, 1) := by decide +kernel
theorem dX11_init_9 : decode cX11_init 9 = .ok (.invokespecial 9, 3) := by decide +kernel
theorem dX11_init_12 : decode cX11_init 12 = .ok (.putfield 10, 3) := by decide +kernel
theorem dX11_init_15 : decode cX11_init 15 = .ok (.aload_n 0, 1) := by decide +kernel
theorem dX11_init_16 : decode cX11_init 16 = .ok (.iconst 3, 1) := by decide +kernel
theorem dX11_init_17 : decode cX11_init 17 = .ok (.anewarray 7, 3) := by decide +kernel
theorem dX11_init_20 : decode cX11_init 20 = .ok (.putfield 16, 3) := by decide +kernel
theorem dX11_init_23 : decode cX11_init 23 = .ok (.aload_n 0, 1) := by decide +kernel
theorem dX11_init_24 : decode cX11_init 24 = .ok (.new 20, 3) := by decide +kernel
theorem dX11_init_27 : decode cX11_init 27 = .ok (.dup, 1) := by decide +kernel
theorem dX11_init_28 : decode cX11_init 28 = .ok (.invokespecial 22, 3) := by decide +kernel
theorem dX11_init_31 : decode cX11_init 31 = .ok (.putfield 23, 3) := by decide +kernel
theorem dX11_init_34 : decode cX11_init 34 = .ok (.aload_n 0, 1) := by decide +kernel
theorem dX11_init_35 : decode cX11_init 35 = .ok (.new 27, 3) := by decide +kernel
theorem dX11_init_38 : decode cX11_init 38 = .ok (.dup, 1) := by decide +kernel
theorem dX11_init_39 : decode cX11_init 39 = .ok (.invokespecial 29, 3) := by decide +kernel
theorem dX11_init_42 : decode cX11_init 42 = .ok (.putfield 30, 3) := by decide +kernel
theorem dX11_init_45 : decode cX11_init 45 = .ok (.aload_n 0, 1) := by decide +kernel
theorem dX11_init_46 : decode cX11_init 46 = .ok (.new 34, 3) := by decide +kernel
theorem dX11_init_49 : decode cX11_init 49 = .ok (.dup, 1) := by decide +kernel
theorem dX11_init_50 : decode cX11_init 50 = .ok (.invokespecial 36, 3) := by decide +kernel
theorem dX11_init_53 : decode cX11_init 53 = .ok (.putfield 37, 3) := by decide +kernel
theorem dX11_init_56 : decode cX11_init 56 = .ok (.aload_n 0, 1) := by decide +kernel
theorem dX11_init_57 : decode cX11_init 57 = .ok (.new 41, 3) := by decide +kernel
theorem dX11_init_60 : decode cX11_init 60 = .ok (.dup, 1) := by decide +kernel
theorem dX11_init_61 : decode cX11_init 61 = .ok (.invokespecial 43, 3) := by decide +kernel
theorem dX11_init_64 : decode cX11_init 64 = .ok (.putfield 44, 3) := by decide +kernel
theorem dX11_init_67 : decode cX11_init 67 = .ok (.return_, 1) := by decide +kernel
theorem dX11_feed_0 : decode cX11_feed 0 = .ok (.aload_n 0, 1) := by decide +kernel
theorem dX11_feed_1 : decode cX11_feed 1 = .ok (.getfield 10, 3) := by decide +kernel
theorem dX11_feed_4 : decode cX11_feed 4 = .ok (.getfield 48, 3) := by decide +kernel
theorem dX11_feed_7 : decode cX11_feed 7 = .ok (.astore 6, 2) := by decide +kernel
theorem dX11_feed_9 : decode cX11_feed 9 = .ok (.aload 6, 2) := by decide +kernel
theorem dX11_feed_11 : decode cX11_feed 11 = .ok (.invokevirtual 52, 3) := by decide +kernel
theorem dX11_feed_14 : decode cX11_feed 14 = .ok (.ifCond .ne 5, 3) := by decide +kernel
theorem dX11_feed_17 : decode cX11_feed 17 = .ok (.iconst (-1), 1) := by decide +kernel
theorem dX11_feed_18 : decode cX11_feed 18 = .ok (.ireturn, 1) := by decide +kernel
theorem dX11_feed_19 : decode cX11_feed 19 = .ok (.aload 6, 2) := by decide +kernel
theorem dX11_feed_21 : decode cX11_feed 21 = .ok (.iload_n 1, 1) := by decide +kernel
theorem dX11_feed_22 : decode cX11_feed 22 = .ok (.invokevirtual 58, 3) := by decide +kernel
theorem dX11_feed_25 : decode cX11_feed 25 = .ok (.aload 6, 2) := by decide +kernel
theorem dX11_feed_27 : decode cX11_feed 27 = .ok (.iload_n 2, 1) := by decide +kernel
theorem dX11_feed_28 : decode cX11_feed 28 = .ok (.invokevirtual 58, 3) := by decide +kernel
theorem dX11_feed_31 : decode cX11_feed 31 = .ok (.aload 6, 2) := by decide +kernel
theorem dX11_feed_33 : decode cX11_feed 33 = .ok (.iload_n 3, 1) := by decide +kernel
theorem dX11_feed_34 : decode cX11_feed 34 = .ok (.invokevirtual 58, 3) := by decide +kernel
theorem dX11_feed_37 : decode cX11_feed 37 = .ok (.aload 6, 2) := by decide +kernel
theorem dX11_feed_39 : decode cX11_feed 39 = .ok (.iload 4, 2) := by decide +kernel
theorem dX11_feed_41 : decode cX11_feed 41 = .ok (.invokevirtual 58, 3) := by decide +kernel
theorem dX11_feed_44 : decode cX11_feed 44 = .ok (.aload 6, 2) := by decide +kernel
theorem dX11_feed_46 : decode cX11_feed 46 = .ok (.iload 5, 2) := by decide +kernel
theorem dX11_feed_48 : decode cX11_feed 48 = .ok (.invokevirtual 58, 3) := by decide +kernel
theorem dX11_feed_51 : decode cX11_feed 51 = .ok (.aload 6, 2) := by decide +kernel
theorem dX11_feed_53 : decode cX11_feed 53 = .ok (.getfield 62, 3) := by decide +kernel
theorem dX11_feed_56 : decode cX11_feed 56 = .ok (.ireturn, 1) := by decide +kernel
theorem dX11_end_0 : decode cX11_end 0 = .ok (.iload_n 1, 1) := by decide +kernel
theorem dX11_end_1 : decode cX11_end 1 = .ok (.ifCond .lt 17, 3) := by decide +kernel
theorem dX11_end_4 : decode cX11_end 4 = .ok (.iload_n 1, 1) := by decide +kernel
theorem dX11_end_5 : decode cX11_end 5 = .ok (.aload_n 0, 1) := by decide +kernel
theorem dX11_end_6 : decode cX11_end 6 = .ok (.getfield 10, 3) := by decide +kernel
theorem dX11_end_9 : decode cX11_end 9 = .ok (.getfield 48, 3) := by decide +kernel
theorem dX11_end_12 : decode cX11_end 12 = .ok (.getfield 62, 3) := by decide +kernel
theorem dX11_end_15 : decode cX11_end 15 = .ok (.if_icmp .le 5, 3) := by decide +kernel
theorem dX11_end_18 : decode cX11_end 18 = .ok (.iconst (-1), 1) := by decide +kernel
theorem dX11_end_19 : decode cX11_end 19 = .ok (.ireturn, 1) := by decide +kernel
theorem dX11_end_20 : decode cX11_end 20 = .ok (.aload_n 0, 1) := by decide +kernel
theorem dX11_end_21 : decode cX11_end 21 = .ok (.getfield 10, 3) := by decide +kernel
theorem dX11_end_24 : decode cX11_end 24 = .ok (.getfield 48, 3) := by decide +kernel
theorem dX11_end_27 : decode cX11_end 27 = .ok (.iload_n 1, 1) := by decide +kernel
theorem dX11_end_28 : decode cX11_end 28 = .ok (.putfield 62, 3) := by decide +kernel
theorem dX11_end_31 : decode cX11_end 31 = .ok (.iload_n 1, 1) := by decide +kernel
theorem dX11_end_32 : decode cX11_end 32 = .ok (.ireturn, 1) := by decide +kernel
theorem dX11_text_0 : decode cX11_text 0 = .ok (.aload_n 0, 1) := by decide +kernel
theorem dX11_text_1 : decode cX11_text 1 = .ok (.getfield 10, 3) := by decide +kernel
theorem dX11_text_4 : decode cX11_text 4 = .ok (.iload_n 1, 1) := by decide +kernel
theorem dX11_text_5 : decode cX11_text 5 = .ok (.iload_n 2, 1) := by decide +kernel
theorem dX11_text_6 : decode cX11_text 6 = .ok (.invokevirtual 66, 3) := by decide +kernel
theorem dX11_text_9 : decode cX11_text 9 = .ok (.istore_n 3, 1) := by decide +kernel
theorem dX11_text_10 : decode cX11_text 10 = .ok (.iload_n 3, 1) := by decide +kernel
theorem dX11_text_11 : decode cX11_text 11 = .ok (.iconst (-1), 1) := by decide +kernel
theorem dX11_text_12 : decode cX11_text 12 = .ok (.if_icmp .ne 33, 3) := by decide +kernel
theorem dX11_text_15 : decode cX11_text 15 = .ok (.aload_n 0, 1) := by decide +kernel
theorem dX11_text_16 : decode cX11_text 16 = .ok (.getfield 10, 3) := by decide +kernel
theorem dX11_text_19 : decode cX11_text 19 = .ok (.iconst 0, 1) := by decide +kernel
theorem dX11_text_20 : decode cX11_text 20 = .ok (.putfield 70, 3) := by decide +kernel
theorem dX11_text_23 : decode cX11_text 23 = .ok (.aload_n 0, 1) := by decide +kernel
theorem dX11_text_24 : decode cX11_text 24 = .ok (.getfield 10, 3) := by decide +kernel
theorem dX11_text_27 : decode cX11_text 27 = .ok (.iconst (-1), 1) := by decide +kernel
theorem dX11_text_28 : decode cX11_text 28 = .ok (.putfield 73, 3) := by decide +kernel
theorem dX11_text_31 : decode cX11_text 31 = .ok (.aload_n 0, 1) := by decide +kernel
theorem dX11_text_32 : decode cX11_text 32 = .ok (.getfield 10, 3) := by decide +kernel
theorem dX11_text_35 : decode cX11_text 35 = .ok (.getfield 48, 3) := by decide +kernel
theorem dX11_text_38 : decode cX11_text 38 = .ok (.iconst 0, 1) := by decide +kernel
theorem dX11_text_39 : decode cX11_text 39 = .ok (.putfield 62, 3) := by decide +kernel
theorem dX11_text_42 : decode cX11_text 42 = .ok (.bipush (-2), 2) := by decide +kernel
theorem dX11_text_44 : decode cX11_text 44 = .ok (.ireturn, 1) := by decide +kernel
theorem dX11_text_45 : decode cX11_text 45 = .ok (.aload_n 0, 1) := by decide +kernel
theorem dX11_text_46 : decode cX11_text 46 = .ok (.getfield 23, 3) := by decide +kernel
theorem dX11_text_49 : decode cX11_text 49 = .ok (.aload_n 0, 1) := by decide +kernel
theorem dX11_text_50 : decode cX11_text 50 = .ok (.getfield 10, 3) := by decide +kernel
theorem dX11_text_53 : decode cX11_text 53 = .ok (.getfield 48, 3) := by decide +kernel
theorem dX11_text_56 : decode cX11_text 56 = .ok (.iload_n 1, 1) := by decide +kernel
theorem dX11_text_57 : decode cX11_text 57 = .ok (.invokevirtual 76, 3) := by decide +kernel
theorem dX11_text_60 : decode cX11_text 60 = .ok (.aload_n 0, 1) := by decide +kernel
theorem dX11_text_61 : decode cX11_text 61 = .ok (.getfield 10, 3) := by decide +kernel
theorem dX11_text_64 : decode cX11_text 64 = .ok (.getfield 48, 3) := by decide +kernel
theorem dX11_text_67 : decode cX11_text 67 = .ok (.iconst 0, 1) := by decide +kernel
theorem dX11_text_68 : decode cX11_text 68 = .ok (.putfield 62, 3) := by decide +kernel
theorem dX11_text_71 : decode cX11_text 71 = .ok (.aload_n 0, 1) := by decide +kernel
theorem dX11_text_72 : decode cX11_text 72 = .ok (.getfield 10, 3) := by decide +kernel
theorem dX11_text_75 : decode cX11_text 75 = .ok (.aload_n 0, 1) := by decide +kernel
theorem dX11_text_76 : decode cX11_text 76 = .ok (.getfield 23, 3) := by decide +kernel
theorem dX11_text_79 : decode cX11_text 79 = .ok (.getfield 80, 3) := by decide +kernel
theorem dX11_text_82 : decode cX11_text 82 = .ok (.putfield 70, 3) := by decide +kernel
theorem dX11_text_85 : decode cX11_text 85 = .ok (.aload_n 0, 1) := by decide +kernel
theorem dX11_text_86 : decode cX11_text 86 = .ok (.getfield 10, 3) := by decide +kernel
theorem dX11_text_89 : decode cX11_text 89 = .ok (.aload_n 0, 1) := by decide +kernel
theorem dX11_text_90 : decode cX11_text 90 = .ok (.getfield 23, 3) := by decide +kernel
theorem dX11_text_93 : decode cX11_text 93 = .ok (.getfield 81, 3) := by decide +kernel
theorem dX11_text_96 : decode cX11_text 96 = .ok (.putfield 73, 3) := by decide +kernel
theorem dX11_text_99 : decode cX11_text 99 = .ok (.aload_n 0, 1) := by decide +kernel
theorem dX11_text_100 : decode cX11_text 100 = .ok (.getfield 23, 3) := by decide +kernel
theorem dX11_text_103 : decode cX11_text 103 = .ok (.getfield 80, 3) := by decide +kernel
theorem dX11_text_106 : decode cX11_text 106 = .ok (.ifCond .eq 5, 3) := by decide +kernel
theorem dX11_text_109 : decode cX11_text 109 = .ok (.iconst (-1), 1) := by decide +kernel
theorem dX11_text_110 : decode cX11_text 110 = .ok (.ireturn, 1) := by decide +kernel
theorem dX11_text_111 : decode cX11_text 111 = .ok (.aload_n 0, 1) := by decide +kernel
theorem dX11_text_112 : decode cX11_text 112 = .ok (.getfield 10, 3) := by decide +kernel
theorem dX11_text_115 : decode cX11_text 115 = .ok (.aload_n 0, 1) := by decide +kernel
theorem dX11_text_116 : decode cX11_text 116 = .ok (.getfield 23, 3) := by decide +kernel
theorem dX11_text_119 : decode cX11_text 119 = .ok (.iload_n 1, 1) := by decide +kernel
theorem dX11_text_120 : decode cX11_text 120 = .ok (.iload_n 3, 1) := by decide +kernel
theorem dX11_text_121 : decode cX11_text 121 = .ok (.invokevirtual 82, 3) := by decide +kernel
theorem dX11_text_124 : decode cX11_text 124 = .ok (.iload_n 3, 1) := by decide +kernel
theorem dX11_text_125 : decode cX11_text 125 = .ok (.ireturn, 1) := by decide +kernel
theorem dX11_fault_0 : decode cX11_fault 0 = .ok (.iload_n 1, 1) := by decide +kernel
theorem dX11_fault_1 : decode cX11_fault 1 = .ok (.lookupswitch 43 #[(0, 27), (1, 35)], 27) := by decide +kernel
theorem dX11_fault_28 : decode cX11_fault 28 = .ok (.aload_n 0, 1) := by decide +kernel
theorem dX11_fault_29 : decode cX11_fault 29 = .ok (.getfield 10, 3) := by decide +kernel
theorem dX11_fault_32 : decode cX11_fault 32 = .ok (.getfield 70, 3) := by decide +kernel
theorem dX11_fault_35 : decode cX11_fault 35 = .ok (.ireturn, 1) := by decide +kernel
theorem dX11_fault_36 : decode cX11_fault 36 = .ok (.aload_n 0, 1) := by decide +kernel
theorem dX11_fault_37 : decode cX11_fault 37 = .ok (.getfield 10, 3) := by decide +kernel
theorem dX11_fault_40 : decode cX11_fault 40 = .ok (.getfield 73, 3) := by decide +kernel
theorem dX11_fault_43 : decode cX11_fault 43 = .ok (.ireturn, 1) := by decide +kernel
theorem dX11_fault_44 : decode cX11_fault 44 = .ok (.iconst (-1), 1) := by decide +kernel
theorem dX11_fault_45 : decode cX11_fault 45 = .ok (.ireturn, 1) := by decide +kernel
theorem dX11_archive_0 : decode cX11_archive 0 = .ok (.aload_n 0, 1) := by decide +kernel
theorem dX11_archive_1 : decode cX11_archive 1 = .ok (.getfield 10, 3) := by decide +kernel
theorem dX11_archive_4 : decode cX11_archive 4 = .ok (.iload_n 1, 1) := by decide +kernel
theorem dX11_archive_5 : decode cX11_archive 5 = .ok (.invokevirtual 86, 3) := by decide +kernel
theorem dX11_archive_8 : decode cX11_archive 8 = .ok (.astore_n 3, 1) := by decide +kernel
theorem dX11_archive_9 : decode cX11_archive 9 = .ok (.aload_n 3, 1) := by decide +kernel
theorem dX11_archive_10 : decode cX11_archive 10 = .ok (.ifnonnull 6, 3) := by decide +kernel
theorem dX11_archive_13 : decode cX11_archive 13 = .ok (.bipush (-2), 2) := by decide +kernel
theorem dX11_archive_15 : decode cX11_archive 15 = .ok (.ireturn, 1) := by decide +kernel
theorem dX11_archive_16 : decode cX11_archive 16 = .ok (.iload_n 2, 1) := by decide +kernel
theorem dX11_archive_17 : decode cX11_archive 17 = .ok (.tableswitch 103 0 7 #[47, 52, 57, 66, 71, 80, 89, 98], 47) := by decide +kernel
theorem dX11_archive_64 : decode cX11_archive 64 = .ok (.aload_n 3, 1) := by decide +kernel
theorem dX11_archive_65 : decode cX11_archive 65 = .ok (.getfield 90, 3) := by decide +kernel
theorem dX11_archive_68 : decode cX11_archive 68 = .ok (.ireturn, 1) := by decide +kernel
theorem dX11_archive_69 : decode cX11_archive 69 = .ok (.aload_n 3, 1) := by decide +kernel
theorem dX11_archive_70 : decode cX11_archive 70 = .ok (.invokevirtual 95, 3) := by decide +kernel
theorem dX11_archive_73 : decode cX11_archive 73 = .ok (.ireturn, 1) := by decide +kernel
theorem dX11_archive_74 : decode cX11_archive 74 = .ok (.aload_n 0, 1) := by decide +kernel
theorem dX11_archive_75 : decode cX11_archive 75 = .ok (.getfield 30, 3) := by decide +kernel
theorem dX11_archive_78 : decode cX11_archive 78 = .ok (.aload_n 3, 1) := by decide +kernel
theorem dX11_archive_79 : decode cX11_archive 79 = .ok (.invokevirtual 99, 3) := by decide +kernel
theorem dX11_archive_82 : decode cX11_archive 82 = .ok (.ireturn, 1) := by decide +kernel
theorem dX11_archive_83 : decode cX11_archive 83 = .ok (.aload_n 3, 1) := by decide +kernel
theorem dX11_archive_84 : decode cX11_archive 84 = .ok (.getfield 103, 3) := by decide +kernel
theorem dX11_archive_87 : decode cX11_archive 87 = .ok (.ireturn, 1) := by decide +kernel
theorem dX11_archive_88 : decode cX11_archive 88 = .ok (.aload_n 0, 1) := by decide +kernel
theorem dX11_archive_89 : decode cX11_archive 89 = .ok (.getfield 30, 3) := by decide +kernel
theorem dX11_archive_92 : decode cX11_archive 92 = .ok (.aload_n 3, 1) := by decide +kernel
theorem dX11_archive_93 : decode cX11_archive 93 = .ok (.invokevirtual 106, 3) := by decide +kernel
theorem dX11_archive_96 : decode cX11_archive 96 = .ok (.ireturn, 1) := by decide +kernel
theorem dX11_archive_97 : decode cX11_archive 97 = .ok (.aload_n 0, 1) := by decide +kernel
theorem dX11_archive_98 : decode cX11_archive 98 = .ok (.getfield 30, 3) := by decide +kernel
theorem dX11_archive_101 : decode cX11_archive 101 = .ok (.aload_n 3, 1) := by decide +kernel
theorem dX11_archive_102 : decode cX11_archive 102 = .ok (.invokevirtual 109, 3) := by decide +kernel
theorem dX11_archive_105 : decode cX11_archive 105 = .ok (.ireturn, 1) := by decide +kernel
theorem dX11_archive_106 : decode cX11_archive 106 = .ok (.aload_n 0, 1) := by decide +kernel
theorem dX11_archive_107 : decode cX11_archive 107 = .ok (.getfield 30, 3) := by decide +kernel
theorem dX11_archive_110 : decode cX11_archive 110 = .ok (.aload_n 3, 1) := by decide +kernel
theorem dX11_archive_111 : decode cX11_archive 111 = .ok (.invokevirtual 112, 3) := by decide +kernel
theorem dX11_archive_114 : decode cX11_archive 114 = .ok (.ireturn, 1) := by decide +kernel
theorem dX11_archive_115 : decode cX11_archive 115 = .ok (.aload_n 3, 1) := by decide +kernel
theorem dX11_archive_116 : decode cX11_archive 116 = .ok (.getfield 115, 3) := by decide +kernel
theorem dX11_archive_119 : decode cX11_archive 119 = .ok (.ireturn, 1) := by decide +kernel
theorem dX11_archive_120 : decode cX11_archive 120 = .ok (.aload_n 0, 1) := by decide +kernel
theorem dX11_archive_121 : decode cX11_archive 121 = .ok (.aload_n 3, 1) := by decide +kernel
theorem dX11_archive_122 : decode cX11_archive 122 = .ok (.iload_n 2, 1) := by decide +kernel
theorem dX11_archive_123 : decode cX11_archive 123 = .ok (.invokevirtual 118, 3) := by decide +kernel
theorem dX11_archive_126 : decode cX11_archive 126 = .ok (.ireturn, 1) := by decide +kernel
theorem dX11_ofDocument_0 : decode cX11_ofDocument 0 = .ok (.iload_n 2, 1) := by decide +kernel
theorem dX11_ofDocument_1 : decode cX11_ofDocument 1 = .ok (.bipush 10, 2) := by decide +kernel
theorem dX11_ofDocument_3 : decode cX11_ofDocument 3 = .ok (.irem, 1) := by decide +kernel
theorem dX11_ofDocument_4 : decode cX11_ofDocument 4 = .ok (.istore_n 3, 1) := by decide +kernel
theorem dX11_ofDocument_5 : decode cX11_ofDocument 5 = .ok (.iload_n 2, 1) := by decide +kernel
theorem dX11_ofDocument_6 : decode cX11_ofDocument 6 = .ok (.bipush 10, 2) := by decide +kernel
theorem dX11_ofDocument_8 : decode cX11_ofDocument 8 = .ok (.if_icmp .lt 11, 3) := by decide +kernel
theorem dX11_ofDocument_11 : decode cX11_ofDocument 11 = .ok (.aload_n 1, 1) := by decide +kernel
theorem dX11_ofDocument_12 : decode cX11_ofDocument 12 = .ok (.iload_n 3, 1) := by decide +kernel
theorem dX11_ofDocument_13 : decode cX11_ofDocument 13 = .ok (.invokevirtual 122, 3) := by decide +kernel
theorem dX11_ofDocument_16 : decode cX11_ofDocument 16 = .ok (.ifCond .ne 6, 3) := by decide +kernel
theorem dX11_ofDocument_19 : decode cX11_ofDocument 19 = .ok (.bipush (-2), 2) := by decide +kernel
theorem dX11_ofDocument_21 : decode cX11_ofDocument 21 = .ok (.ireturn, 1) := by decide +kernel
theorem dX11_ofDocument_22 : decode cX11_ofDocument 22 = .ok (.iload_n 2, 1) := by decide +kernel
theorem dX11_ofDocument_23 : decode cX11_ofDocument 23 = .ok (.bipush 10, 2) := by decide +kernel
theorem dX11_ofDocument_25 : decode cX11_ofDocument 25 = .ok (.idiv, 1) := by decide +kernel
theorem dX11_ofDocument_26 : decode cX11_ofDocument 26 = .ok (.tableswitch 82 1 5 #[34, 40, 51, 62, 72], 34) := by decide +kernel
theorem dX11_ofDocument_60 : decode cX11_ofDocument 60 = .ok (.aload_n 1, 1) := by decide +kernel
theorem dX11_ofDocument_61 : decode cX11_ofDocument 61 = .ok (.iload_n 3, 1) := by decide +kernel
theorem dX11_ofDocument_62 : decode cX11_ofDocument 62 = .ok (.invokevirtual 126, 3) := by decide +kernel
theorem dX11_ofDocument_65 : decode cX11_ofDocument 65 = .ok (.ireturn, 1) := by decide +kernel
theorem dX11_ofDocument_66 : decode cX11_ofDocument 66 = .ok (.aload_n 0, 1) := by decide +kernel
theorem dX11_ofDocument_67 : decode cX11_ofDocument 67 = .ok (.getfield 30, 3) := by decide +kernel
theorem dX11_ofDocument_70 : decode cX11_ofDocument 70 = .ok (.aload_n 1, 1) := by decide +kernel
theorem dX11_ofDocument_71 : decode cX11_ofDocument 71 = .ok (.iload_n 3, 1) := by decide +kernel
theorem dX11_ofDocument_72 : decode cX11_ofDocument 72 = .ok (.iconst 0, 1) := by decide +kernel
theorem dX11_ofDocument_73 : decode cX11_ofDocument 73 = .ok (.invokevirtual 130, 3) := by decide +kernel
theorem dX11_ofDocument_76 : decode cX11_ofDocument 76 = .ok (.ireturn, 1) := by decide +kernel
theorem dX11_ofDocument_77 : decode cX11_ofDocument 77 = .ok (.aload_n 0, 1) := by decide +kernel
theorem dX11_ofDocument_78 : decode cX11_ofDocument 78 = .ok (.getfield 30, 3) := by decide +kernel
theorem dX11_ofDocument_81 : decode cX11_ofDocument 81 = .ok (.aload_n 1, 1) := by decide +kernel
theorem dX11_ofDocument_82 : decode cX11_ofDocument 82 = .ok (.iload_n 3, 1) := by decide +kernel
theorem dX11_ofDocument_83 : decode cX11_ofDocument 83 = .ok (.iconst 1, 1) := by decide +kernel
theorem dX11_ofDocument_84 : decode cX11_ofDocument 84 = .ok (.invokevirtual 130, 3) := by decide +kernel
theorem dX11_ofDocument_87 : decode cX11_ofDocument 87 = .ok (.ireturn, 1) := by decide +kernel
theorem dX11_ofDocument_88 : decode cX11_ofDocument 88 = .ok (.aload_n 0, 1) := by decide +kernel
theorem dX11_ofDocument_89 : decode cX11_ofDocument 89 = .ok (.getfield 30, 3) := by decide +kernel
theorem dX11_ofDocument_92 : decode cX11_ofDocument 92 = .ok (.aload_n 1, 1) := by decide +kernel
theorem dX11_ofDocument_93 : decode cX11_ofDocument 93 = .ok (.iload_n 3, 1) := by decide +kernel
theorem dX11_ofDocument_94 : decode cX11_ofDocument 94 = .ok (.invokevirtual 134, 3) := by decide +kernel
theorem dX11_ofDocument_97 : decode cX11_ofDocument 97 = .ok (.ireturn, 1) := by decide +kernel
theorem dX11_ofDocument_98 : decode cX11_ofDocument 98 = .ok (.aload_n 0, 1) := by decide +kernel
theorem dX11_ofDocument_99 : decode cX11_ofDocument 99 = .ok (.getfield 30, 3) := by decide +kernel
theorem dX11_ofDocument_102 : decode cX11_ofDocument 102 = .ok (.aload_n 1, 1) := by decide +kernel
theorem dX11_ofDocument_103 : decode cX11_ofDocument 103 = .ok (.iload_n 3, 1) := by decide +kernel
theorem dX11_ofDocument_104 : decode cX11_ofDocument 104 = .ok (.invokevirtual 137, 3) := by decide +kernel
theorem dX11_ofDocument_107 : decode cX11_ofDocument 107 = .ok (.ireturn, 1) := by decide +kernel
theorem dX11_ofDocument_108 : decode cX11_ofDocument 108 = .ok (.bipush (-2), 2) := by decide +kernel
theorem dX11_ofDocument_110 : decode cX11_ofDocument 110 = .ok (.ireturn, 1) := by decide +kernel
theorem dX11_version_0 : decode cX11_version 0 = .ok (.aload_n 0, 1) := by decide +kernel
theorem dX11_version_1 : decode cX11_version 1 = .ok (.getfield 10, 3) := by decide +kernel
theorem dX11_version_4 : decode cX11_version 4 = .ok (.iload_n 1, 1) := by decide +kernel
theorem dX11_version_5 : decode cX11_version 5 = .ok (.invokevirtual 86, 3) := by decide +kernel
theorem dX11_version_8 : decode cX11_version 8 = .ok (.astore 5, 2) := by decide +kernel
theorem dX11_version_10 : decode cX11_version 10 = .ok (.aload 5, 2) := by decide +kernel
theorem dX11_version_12 : decode cX11_version 12 = .ok (.ifnull 13, 3) := by decide +kernel
theorem dX11_version_15 : decode cX11_version 15 = .ok (.aload 5, 2) := by decide +kernel
theorem dX11_version_17 : decode cX11_version 17 = .ok (.iload_n 2, 1) := by decide +kernel
theorem dX11_version_18 : decode cX11_version 18 = .ok (.iload_n 3, 1) := by decide +kernel
theorem dX11_version_19 : decode cX11_version 19 = .ok (.invokevirtual 140, 3) := by decide +kernel
theorem dX11_version_22 : decode cX11_version 22 = .ok (.ifCond .ne 5, 3) := by decide +kernel
theorem dX11_version_25 : decode cX11_version 25 = .ok (.iconst (-1), 1) := by decide +kernel
theorem dX11_version_26 : decode cX11_version 26 = .ok (.ireturn, 1) := by decide +kernel
theorem dX11_version_27 : decode cX11_version 27 = .ok (.iload 4, 2) := by decide +kernel
theorem dX11_version_29 : decode cX11_version 29 = .ok (.tableswitch 103 0 5 #[39, 47, 55, 67, 79, 91], 39) := by decide +kernel
theorem dX11_version_68 : decode cX11_version 68 = .ok (.aload 5, 2) := by decide +kernel
theorem dX11_version_70 : decode cX11_version 70 = .ok (.iload_n 2, 1) := by decide +kernel
theorem dX11_version_71 : decode cX11_version 71 = .ok (.iload_n 3, 1) := by decide +kernel
theorem dX11_version_72 : decode cX11_version 72 = .ok (.invokevirtual 144, 3) := by decide +kernel
theorem dX11_version_75 : decode cX11_version 75 = .ok (.ireturn, 1) := by decide +kernel
theorem dX11_version_76 : decode cX11_version 76 = .ok (.aload 5, 2) := by decide +kernel
theorem dX11_version_78 : decode cX11_version 78 = .ok (.iload_n 2, 1) := by decide +kernel
theorem dX11_version_79 : decode cX11_version 79 = .ok (.iload_n 3, 1) := by decide +kernel
theorem dX11_version_80 : decode cX11_version 80 = .ok (.invokevirtual 147, 3) := by decide +kernel
theorem dX11_version_83 : decode cX11_version 83 = .ok (.ireturn, 1) := by decide +kernel
theorem dX11_version_84 : decode cX11_version 84 = .ok (.aload_n 0, 1) := by decide +kernel
theorem dX11_version_85 : decode cX11_version 85 = .ok (.getfield 30, 3) := by decide +kernel
theorem dX11_version_88 : decode cX11_version 88 = .ok (.aload 5, 2) := by decide +kernel
theorem dX11_version_90 : decode cX11_version 90 = .ok (.iload_n 2, 1) := by decide +kernel
theorem dX11_version_91 : decode cX11_version 91 = .ok (.iload_n 3, 1) := by decide +kernel
theorem dX11_version_92 : decode cX11_version 92 = .ok (.invokevirtual 150, 3) := by decide +kernel
theorem dX11_version_95 : decode cX11_version 95 = .ok (.ireturn, 1) := by decide +kernel
theorem dX11_version_96 : decode cX11_version 96 = .ok (.aload_n 0, 1) := by decide +kernel
theorem dX11_version_97 : decode cX11_version 97 = .ok (.getfield 30, 3) := by decide +kernel
theorem dX11_version_100 : decode cX11_version 100 = .ok (.aload 5, 2) := by decide +kernel
theorem dX11_version_102 : decode cX11_version 102 = .ok (.iload_n 2, 1) := by decide +kernel
theorem dX11_version_103 : decode cX11_version 103 = .ok (.iload_n 3, 1) := by decide +kernel
theorem dX11_version_104 : decode cX11_version 104 = .ok (.invokevirtual 154, 3) := by decide +kernel
theorem dX11_version_107 : decode cX11_version 107 = .ok (.ireturn, 1) := by decide +kernel
theorem dX11_version_108 : decode cX11_version 108 = .ok (.aload_n 0, 1) := by decide +kernel
theorem dX11_version_109 : decode cX11_version 109 = .ok (.getfield 30, 3) := by decide +kernel
theorem dX11_version_112 : decode cX11_version 112 = .ok (.aload 5, 2) := by decide +kernel
theorem dX11_version_114 : decode cX11_version 114 = .ok (.iload_n 2, 1) := by decide +kernel
theorem dX11_version_115 : decode cX11_version 115 = .ok (.iload_n 3, 1) := by decide +kernel
theorem dX11_version_116 : decode cX11_version 116 = .ok (.invokevirtual 157, 3) := by decide +kernel
theorem dX11_version_119 : decode cX11_version 119 = .ok (.ireturn, 1) := by decide +kernel
theorem dX11_version_120 : decode cX11_version 120 = .ok (.aload_n 0, 1) := by decide +kernel
theorem dX11_version_121 : decode cX11_version 121 = .ok (.getfield 30, 3) := by decide +kernel
theorem dX11_version_124 : decode cX11_version 124 = .ok (.aload 5, 2) := by decide +kernel
theorem dX11_version_126 : decode cX11_version 126 = .ok (.iload_n 2, 1) := by decide +kernel
theorem dX11_version_127 : decode cX11_version 127 = .ok (.iload_n 3, 1) := by decide +kernel
theorem dX11_version_128 : decode cX11_version 128 = .ok (.invokevirtual 160, 3) := by decide +kernel
theorem dX11_version_131 : decode cX11_version 131 = .ok (.ireturn, 1) := by decide +kernel
theorem dX11_version_132 : decode cX11_version 132 = .ok (.iload 4, 2) := by decide +kernel
theorem dX11_version_134 : decode cX11_version 134 = .ok (.bipush 10, 2) := by decide +kernel
theorem dX11_version_136 : decode cX11_version 136 = .ok (.if_icmp .lt 18, 3) := by decide +kernel
theorem dX11_version_139 : decode cX11_version 139 = .ok (.aload 5, 2) := by decide +kernel
theorem dX11_version_141 : decode cX11_version 141 = .ok (.iload_n 2, 1) := by decide +kernel
theorem dX11_version_142 : decode cX11_version 142 = .ok (.iload_n 3, 1) := by decide +kernel
theorem dX11_version_143 : decode cX11_version 143 = .ok (.iload 4, 2) := by decide +kernel
theorem dX11_version_145 : decode cX11_version 145 = .ok (.bipush 10, 2) := by decide +kernel
theorem dX11_version_147 : decode cX11_version 147 = .ok (.isub, 1) := by decide +kernel
theorem dX11_version_148 : decode cX11_version 148 = .ok (.invokevirtual 163, 3) := by decide +kernel
theorem dX11_version_151 : decode cX11_version 151 = .ok (.goto 4, 3) := by decide +kernel
theorem dX11_version_154 : decode cX11_version 154 = .ok (.iconst (-1), 1) := by decide +kernel
theorem dX11_version_155 : decode cX11_version 155 = .ok (.ireturn, 1) := by decide +kernel
theorem dX11_life_0 : decode cX11_life 0 = .ok (.aload_n 0, 1) := by decide +kernel
theorem dX11_life_1 : decode cX11_life 1 = .ok (.getfield 10, 3) := by decide +kernel
theorem dX11_life_4 : decode cX11_life 4 = .ok (.iload_n 1, 1) := by decide +kernel
theorem dX11_life_5 : decode cX11_life 5 = .ok (.invokevirtual 86, 3) := by decide +kernel
theorem dX11_life_8 : decode cX11_life 8 = .ok (.astore 6, 2) := by decide +kernel
theorem dX11_life_10 : decode cX11_life 10 = .ok (.aload 6, 2) := by decide +kernel
theorem dX11_life_12 : decode cX11_life 12 = .ok (.ifnull 15, 3) := by decide +kernel
theorem dX11_life_15 : decode cX11_life 15 = .ok (.aload 6, 2) := by decide +kernel
theorem dX11_life_17 : decode cX11_life 17 = .ok (.iload_n 2, 1) := by decide +kernel
theorem dX11_life_18 : decode cX11_life 18 = .ok (.iload_n 3, 1) := by decide +kernel
theorem dX11_life_19 : decode cX11_life 19 = .ok (.iload 4, 2) := by decide +kernel
theorem dX11_life_21 : decode cX11_life 21 = .ok (.invokevirtual 167, 3) := by decide +kernel
theorem dX11_life_24 : decode cX11_life 24 = .ok (.ifCond .ne 5, 3) := by decide +kernel
theorem dX11_life_27 : decode cX11_life 27 = .ok (.iconst (-1), 1) := by decide +kernel
theorem dX11_life_28 : decode cX11_life 28 = .ok (.ireturn, 1) := by decide +kernel
theorem dX11_life_29 : decode cX11_life 29 = .ok (.aload 6, 2) := by decide +kernel
theorem dX11_life_31 : decode cX11_life 31 = .ok (.aload 6, 2) := by decide +kernel
theorem dX11_life_33 : decode cX11_life 33 = .ok (.iload_n 2, 1) := by decide +kernel
theorem dX11_life_34 : decode cX11_life 34 = .ok (.iload_n 3, 1) := by decide +kernel
theorem dX11_life_35 : decode cX11_life 35 = .ok (.iload 4, 2) := by decide +kernel
theorem dX11_life_37 : decode cX11_life 37 = .ok (.invokevirtual 171, 3) := by decide +kernel
theorem dX11_life_40 : decode cX11_life 40 = .ok (.invokevirtual 174, 3) := by decide +kernel
theorem dX11_life_43 : decode cX11_life 43 = .ok (.istore 7, 2) := by decide +kernel
theorem dX11_life_45 : decode cX11_life 45 = .ok (.iload 5, 2) := by decide +kernel
theorem dX11_life_47 : decode cX11_life 47 = .ok (.tableswitch 53 0 3 #[29, 35, 41, 47], 29) := by decide +kernel
theorem dX11_life_76 : decode cX11_life 76 = .ok (.iload 7, 2) := by decide +kernel
theorem dX11_life_78 : decode cX11_life 78 = .ok (.invokestatic 177, 3) := by decide +kernel
theorem dX11_life_81 : decode cX11_life 81 = .ok (.ireturn, 1) := by decide +kernel
theorem dX11_life_82 : decode cX11_life 82 = .ok (.iload 7, 2) := by decide +kernel
theorem dX11_life_84 : decode cX11_life 84 = .ok (.invokestatic 182, 3) := by decide +kernel
theorem dX11_life_87 : decode cX11_life 87 = .ok (.ireturn, 1) := by decide +kernel
theorem dX11_life_88 : decode cX11_life 88 = .ok (.iload 7, 2) := by decide +kernel
theorem dX11_life_90 : decode cX11_life 90 = .ok (.invokestatic 185, 3) := by decide +kernel
theorem dX11_life_93 : decode cX11_life 93 = .ok (.ireturn, 1) := by decide +kernel
theorem dX11_life_94 : decode cX11_life 94 = .ok (.iload 7, 2) := by decide +kernel
theorem dX11_life_96 : decode cX11_life 96 = .ok (.invokestatic 190, 3) := by decide +kernel
theorem dX11_life_99 : decode cX11_life 99 = .ok (.ireturn, 1) := by decide +kernel
theorem dX11_life_100 : decode cX11_life 100 = .ok (.iconst (-1), 1) := by decide +kernel
theorem dX11_life_101 : decode cX11_life 101 = .ok (.ireturn, 1) := by decide +kernel
theorem dX11_word_0 : decode cX11_word 0 = .ok (.aload_n 0, 1) := by decide +kernel
theorem dX11_word_1 : decode cX11_word 1 = .ok (.getfield 10, 3) := by decide +kernel
theorem dX11_word_4 : decode cX11_word 4 = .ok (.iload_n 1, 1) := by decide +kernel
theorem dX11_word_5 : decode cX11_word 5 = .ok (.invokevirtual 86, 3) := by decide +kernel
theorem dX11_word_8 : decode cX11_word 8 = .ok (.astore 4, 2) := by decide +kernel
theorem dX11_word_10 : decode cX11_word 10 = .ok (.aload 4, 2) := by decide +kernel
theorem dX11_word_12 : decode cX11_word 12 = .ok (.ifnull 12, 3) := by decide +kernel
theorem dX11_word_15 : decode cX11_word 15 = .ok (.aload 4, 2) := by decide +kernel
theorem dX11_word_17 : decode cX11_word 17 = .ok (.iload_n 2, 1) := by decide +kernel
theorem dX11_word_18 : decode cX11_word 18 = .ok (.invokevirtual 193, 3) := by decide +kernel
theorem dX11_word_21 : decode cX11_word 21 = .ok (.ifCond .ne 5, 3) := by decide +kernel
theorem dX11_word_24 : decode cX11_word 24 = .ok (.iconst (-1), 1) := by decide +kernel
theorem dX11_word_25 : decode cX11_word 25 = .ok (.ireturn, 1) := by decide +kernel
theorem dX11_word_26 : decode cX11_word 26 = .ok (.iload_n 3, 1) := by decide +kernel
theorem dX11_word_27 : decode cX11_word 27 = .ok (.tableswitch 86 0 4 #[33, 43, 53, 64, 75], 33) := by decide +kernel
theorem dX11_word_60 : decode cX11_word 60 = .ok (.aload 4, 2) := by decide +kernel
theorem dX11_word_62 : decode cX11_word 62 = .ok (.iload_n 2, 1) := by decide +kernel
theorem dX11_word_63 : decode cX11_word 63 = .ok (.invokevirtual 196, 3) := by decide +kernel
theorem dX11_word_66 : decode cX11_word 66 = .ok (.invokestatic 199, 3) := by decide +kernel
theorem dX11_word_69 : decode cX11_word 69 = .ok (.ireturn, 1) := by decide +kernel
theorem dX11_word_70 : decode cX11_word 70 = .ok (.aload 4, 2) := by decide +kernel
theorem dX11_word_72 : decode cX11_word 72 = .ok (.iload_n 2, 1) := by decide +kernel
theorem dX11_word_73 : decode cX11_word 73 = .ok (.invokevirtual 202, 3) := by decide +kernel
theorem dX11_word_76 : decode cX11_word 76 = .ok (.invokestatic 206, 3) := by decide +kernel
theorem dX11_word_79 : decode cX11_word 79 = .ok (.ireturn, 1) := by decide +kernel
theorem dX11_word_80 : decode cX11_word 80 = .ok (.aload_n 0, 1) := by decide +kernel
theorem dX11_word_81 : decode cX11_word 81 = .ok (.getfield 30, 3) := by decide +kernel
theorem dX11_word_84 : decode cX11_word 84 = .ok (.aload 4, 2) := by decide +kernel
theorem dX11_word_86 : decode cX11_word 86 = .ok (.iload_n 2, 1) := by decide +kernel
theorem dX11_word_87 : decode cX11_word 87 = .ok (.invokevirtual 211, 3) := by decide +kernel
theorem dX11_word_90 : decode cX11_word 90 = .ok (.ireturn, 1) := by decide +kernel
theorem dX11_word_91 : decode cX11_word 91 = .ok (.aload_n 0, 1) := by decide +kernel
theorem dX11_word_92 : decode cX11_word 92 = .ok (.getfield 30, 3) := by decide +kernel
theorem dX11_word_95 : decode cX11_word 95 = .ok (.aload 4, 2) := by decide +kernel
theorem dX11_word_97 : decode cX11_word 97 = .ok (.iload_n 2, 1) := by decide +kernel
theorem dX11_word_98 : decode cX11_word 98 = .ok (.invokevirtual 214, 3) := by decide +kernel
theorem dX11_word_101 : decode cX11_word 101 = .ok (.ireturn, 1) := by decide +kernel
theorem dX11_word_102 : decode cX11_word 102 = .ok (.aload_n 0, 1) := by decide +kernel
theorem dX11_word_103 : decode cX11_word 103 = .ok (.getfield 30, 3) := by decide +kernel
theorem dX11_word_106 : decode cX11_word 106 = .ok (.aload 4, 2) := by decide +kernel
theorem dX11_word_108 : decode cX11_word 108 = .ok (.iload_n 2, 1) := by decide +kernel
theorem dX11_word_109 : decode cX11_word 109 = .ok (.invokevirtual 217, 3) := by decide +kernel
theorem dX11_word_112 : decode cX11_word 112 = .ok (.ireturn, 1) := by decide +kernel
theorem dX11_word_113 : decode cX11_word 113 = .ok (.iconst (-1), 1) := by decide +kernel
theorem dX11_word_114 : decode cX11_word 114 = .ok (.ireturn, 1) := by decide +kernel
theorem dX11_dated_0 : decode cX11_dated 0 = .ok (.aload_n 0, 1) := by decide +kernel
theorem dX11_dated_1 : decode cX11_dated 1 = .ok (.getfield 10, 3) := by decide +kernel
theorem dX11_dated_4 : decode cX11_dated 4 = .ok (.iload_n 1, 1) := by decide +kernel
theorem dX11_dated_5 : decode cX11_dated 5 = .ok (.invokevirtual 86, 3) := by decide +kernel
theorem dX11_dated_8 : decode cX11_dated 8 = .ok (.astore_n 3, 1) := by decide +kernel
theorem dX11_dated_9 : decode cX11_dated 9 = .ok (.aload_n 3, 1) := by decide +kernel
theorem dX11_dated_10 : decode cX11_dated 10 = .ok (.ifnonnull 7, 3) := by decide +kernel
theorem dX11_dated_13 : decode cX11_dated 13 = .ok (.iconst (-1), 1) := by decide +kernel
theorem dX11_dated_14 : decode cX11_dated 14 = .ok (.goto 12, 3) := by decide +kernel
theorem dX11_dated_17 : decode cX11_dated 17 = .ok (.aload_n 0, 1) := by decide +kernel
theorem dX11_dated_18 : decode cX11_dated 18 = .ok (.getfield 30, 3) := by decide +kernel
theorem dX11_dated_21 : decode cX11_dated 21 = .ok (.aload_n 3, 1) := by decide +kernel
theorem dX11_dated_22 : decode cX11_dated 22 = .ok (.iload_n 2, 1) := by decide +kernel
theorem dX11_dated_23 : decode cX11_dated 23 = .ok (.invokevirtual 220, 3) := by decide +kernel
theorem dX11_dated_26 : decode cX11_dated 26 = .ok (.ireturn, 1) := by decide +kernel
theorem dX11_shared_0 : decode cX11_shared 0 = .ok (.aload_n 0, 1) := by decide +kernel
theorem dX11_shared_1 : decode cX11_shared 1 = .ok (.getfield 10, 3) := by decide +kernel
theorem dX11_shared_4 : decode cX11_shared 4 = .ok (.iload_n 1, 1) := by decide +kernel
theorem dX11_shared_5 : decode cX11_shared 5 = .ok (.invokevirtual 86, 3) := by decide +kernel
theorem dX11_shared_8 : decode cX11_shared 8 = .ok (.astore 5, 2) := by decide +kernel
theorem dX11_shared_10 : decode cX11_shared 10 = .ok (.aload 5, 2) := by decide +kernel
theorem dX11_shared_12 : decode cX11_shared 12 = .ok (.ifnull 24, 3) := by decide +kernel
theorem dX11_shared_15 : decode cX11_shared 15 = .ok (.aload 5, 2) := by decide +kernel
theorem dX11_shared_17 : decode cX11_shared 17 = .ok (.iload_n 2, 1) := by decide +kernel
theorem dX11_shared_18 : decode cX11_shared 18 = .ok (.iload_n 3, 1) := by decide +kernel
theorem dX11_shared_19 : decode cX11_shared 19 = .ok (.invokevirtual 140, 3) := by decide +kernel
theorem dX11_shared_22 : decode cX11_shared 22 = .ok (.ifCond .eq 14, 3) := by decide +kernel
theorem dX11_shared_25 : decode cX11_shared 25 = .ok (.aload 5, 2) := by decide +kernel
theorem dX11_shared_27 : decode cX11_shared 27 = .ok (.iload_n 2, 1) := by decide +kernel
theorem dX11_shared_28 : decode cX11_shared 28 = .ok (.iload 4, 2) := by decide +kernel
theorem dX11_shared_30 : decode cX11_shared 30 = .ok (.invokevirtual 140, 3) := by decide +kernel
theorem dX11_shared_33 : decode cX11_shared 33 = .ok (.ifCond .ne 5, 3) := by decide +kernel
theorem dX11_shared_36 : decode cX11_shared 36 = .ok (.iconst (-1), 1) := by decide +kernel
theorem dX11_shared_37 : decode cX11_shared 37 = .ok (.ireturn, 1) := by decide +kernel
theorem dX11_shared_38 : decode cX11_shared 38 = .ok (.aload_n 0, 1) := by decide +kernel
theorem dX11_shared_39 : decode cX11_shared 39 = .ok (.getfield 30, 3) := by decide +kernel
theorem dX11_shared_42 : decode cX11_shared 42 = .ok (.aload 5, 2) := by decide +kernel
theorem dX11_shared_44 : decode cX11_shared 44 = .ok (.iload_n 2, 1) := by decide +kernel
theorem dX11_shared_45 : decode cX11_shared 45 = .ok (.iload_n 3, 1) := by decide +kernel
theorem dX11_shared_46 : decode cX11_shared 46 = .ok (.iload 4, 2) := by decide +kernel
theorem dX11_shared_48 : decode cX11_shared 48 = .ok (.invokevirtual 223, 3) := by decide +kernel
theorem dX11_shared_51 : decode cX11_shared 51 = .ok (.ireturn, 1) := by decide +kernel
theorem dX11_common_0 : decode cX11_common 0 = .ok (.aload_n 0, 1) := by decide +kernel
theorem dX11_common_1 : decode cX11_common 1 = .ok (.getfield 10, 3) := by decide +kernel
theorem dX11_common_4 : decode cX11_common 4 = .ok (.iload_n 1, 1) := by decide +kernel
theorem dX11_common_5 : decode cX11_common 5 = .ok (.invokevirtual 86, 3) := by decide +kernel
theorem dX11_common_8 : decode cX11_common 8 = .ok (.astore 6, 2) := by decide +kernel
theorem dX11_common_10 : decode cX11_common 10 = .ok (.aload 6, 2) := by decide +kernel
theorem dX11_common_12 : decode cX11_common 12 = .ok (.ifnull 25, 3) := by decide +kernel
theorem dX11_common_15 : decode cX11_common 15 = .ok (.aload 6, 2) := by decide +kernel
theorem dX11_common_17 : decode cX11_common 17 = .ok (.iload_n 2, 1) := by decide +kernel
theorem dX11_common_18 : decode cX11_common 18 = .ok (.iload_n 3, 1) := by decide +kernel
theorem dX11_common_19 : decode cX11_common 19 = .ok (.invokevirtual 140, 3) := by decide +kernel
theorem dX11_common_22 : decode cX11_common 22 = .ok (.ifCond .eq 15, 3) := by decide +kernel
theorem dX11_common_25 : decode cX11_common 25 = .ok (.aload 6, 2) := by decide +kernel
theorem dX11_common_27 : decode cX11_common 27 = .ok (.iload 4, 2) := by decide +kernel
theorem dX11_common_29 : decode cX11_common 29 = .ok (.iload 5, 2) := by decide +kernel
theorem dX11_common_31 : decode cX11_common 31 = .ok (.invokevirtual 140, 3) := by decide +kernel
theorem dX11_common_34 : decode cX11_common 34 = .ok (.ifCond .ne 5, 3) := by decide +kernel
theorem dX11_common_37 : decode cX11_common 37 = .ok (.iconst (-1), 1) := by decide +kernel
theorem dX11_common_38 : decode cX11_common 38 = .ok (.ireturn, 1) := by decide +kernel
theorem dX11_common_39 : decode cX11_common 39 = .ok (.aload_n 0, 1) := by decide +kernel
theorem dX11_common_40 : decode cX11_common 40 = .ok (.getfield 30, 3) := by decide +kernel
theorem dX11_common_43 : decode cX11_common 43 = .ok (.aload 6, 2) := by decide +kernel
theorem dX11_common_45 : decode cX11_common 45 = .ok (.iload_n 2, 1) := by decide +kernel
theorem dX11_common_46 : decode cX11_common 46 = .ok (.iload_n 3, 1) := by decide +kernel
theorem dX11_common_47 : decode cX11_common 47 = .ok (.iload 4, 2) := by decide +kernel
theorem dX11_common_49 : decode cX11_common 49 = .ok (.iload 5, 2) := by decide +kernel
theorem dX11_common_51 : decode cX11_common 51 = .ok (.invokevirtual 227, 3) := by decide +kernel
theorem dX11_common_54 : decode cX11_common 54 = .ok (.ireturn, 1) := by decide +kernel
theorem dX11_question_0 : decode cX11_question 0 = .ok (.aload_n 0, 1) := by decide +kernel
theorem dX11_question_1 : decode cX11_question 1 = .ok (.getfield 10, 3) := by decide +kernel
theorem dX11_question_4 : decode cX11_question 4 = .ok (.iload_n 1, 1) := by decide +kernel
theorem dX11_question_5 : decode cX11_question 5 = .ok (.invokevirtual 231, 3) := by decide +kernel
theorem dX11_question_8 : decode cX11_question 8 = .ok (.astore 4, 2) := by decide +kernel
theorem dX11_question_10 : decode cX11_question 10 = .ok (.aload 4, 2) := by decide +kernel
theorem dX11_question_12 : decode cX11_question 12 = .ok (.ifnonnull 6, 3) := by decide +kernel
theorem dX11_question_15 : decode cX11_question 15 = .ok (.bipush (-2), 2) := by decide +kernel
theorem dX11_question_17 : decode cX11_question 17 = .ok (.ireturn, 1) := by decide +kernel
theorem dX11_question_18 : decode cX11_question 18 = .ok (.iload_n 2, 1) := by decide +kernel
theorem dX11_question_19 : decode cX11_question 19 = .ok (.iconst (-1), 1) := by decide +kernel
theorem dX11_question_20 : decode cX11_question 20 = .ok (.if_icmp .ne 18, 3) := by decide +kernel
theorem dX11_question_23 : decode cX11_question 23 = .ok (.iload_n 3, 1) := by decide +kernel
theorem dX11_question_24 : decode cX11_question 24 = .ok (.ifCond .ne 11, 3) := by decide +kernel
theorem dX11_question_27 : decode cX11_question 27 = .ok (.aload 4, 2) := by decide +kernel
theorem dX11_question_29 : decode cX11_question 29 = .ok (.getfield 235, 3) := by decide +kernel
theorem dX11_question_32 : decode cX11_question 32 = .ok (.goto 5, 3) := by decide +kernel
theorem dX11_question_35 : decode cX11_question 35 = .ok (.bipush (-2), 2) := by decide +kernel
theorem dX11_question_37 : decode cX11_question 37 = .ok (.ireturn, 1) := by decide +kernel
theorem dX11_question_38 : decode cX11_question 38 = .ok (.aload 4, 2) := by decide +kernel
theorem dX11_question_40 : decode cX11_question 40 = .ok (.iload_n 2, 1) := by decide +kernel
theorem dX11_question_41 : decode cX11_question 41 = .ok (.invokevirtual 239, 3) := by decide +kernel
theorem dX11_question_44 : decode cX11_question 44 = .ok (.ifCond .ne 6, 3) := by decide +kernel
theorem dX11_question_47 : decode cX11_question 47 = .ok (.bipush (-2), 2) := by decide +kernel
theorem dX11_question_49 : decode cX11_question 49 = .ok (.ireturn, 1) := by decide +kernel
theorem dX11_question_50 : decode cX11_question 50 = .ok (.iload_n 3, 1) := by decide +kernel
theorem dX11_question_51 : decode cX11_question 51 = .ok (.tableswitch 48 0 2 #[25, 32, 40], 25) := by decide +kernel
theorem dX11_question_76 : decode cX11_question 76 = .ok (.aload 4, 2) := by decide +kernel
theorem dX11_question_78 : decode cX11_question 78 = .ok (.iload_n 2, 1) := by decide +kernel
theorem dX11_question_79 : decode cX11_question 79 = .ok (.invokevirtual 242, 3) := by decide +kernel
theorem dX11_question_82 : decode cX11_question 82 = .ok (.ireturn, 1) := by decide +kernel
theorem dX11_question_83 : decode cX11_question 83 = .ok (.aload 4, 2) := by decide +kernel
theorem dX11_question_85 : decode cX11_question 85 = .ok (.iload_n 2, 1) := by decide +kernel
theorem dX11_question_86 : decode cX11_question 86 = .ok (.iconst 0, 1) := by decide +kernel
theorem dX11_question_87 : decode cX11_question 87 = .ok (.invokevirtual 245, 3) := by decide +kernel
theorem dX11_question_90 : decode cX11_question 90 = .ok (.ireturn, 1) := by decide +kernel
theorem dX11_question_91 : decode cX11_question 91 = .ok (.aload 4, 2) := by decide +kernel
theorem dX11_question_93 : decode cX11_question 93 = .ok (.iload_n 2, 1) := by decide +kernel
theorem dX11_question_94 : decode cX11_question 94 = .ok (.iconst 1, 1) := by decide +kernel
theorem dX11_question_95 : decode cX11_question 95 = .ok (.invokevirtual 245, 3) := by decide +kernel
theorem dX11_question_98 : decode cX11_question 98 = .ok (.ireturn, 1) := by decide +kernel
theorem dX11_question_99 : decode cX11_question 99 = .ok (.iload_n 3, 1) := by decide +kernel
theorem dX11_question_100 : decode cX11_question 100 = .ok (.bipush 10, 2) := by decide +kernel
theorem dX11_question_102 : decode cX11_question 102 = .ok (.if_icmp .lt 32, 3) := by decide +kernel
theorem dX11_question_105 : decode cX11_question 105 = .ok (.iload_n 3, 1) := by decide +kernel
theorem dX11_question_106 : decode cX11_question 106 = .ok (.bipush 10, 2) := by decide +kernel
theorem dX11_question_108 : decode cX11_question 108 = .ok (.isub, 1) := by decide +kernel
theorem dX11_question_109 : decode cX11_question 109 = .ok (.aload 4, 2) := by decide +kernel
theorem dX11_question_111 : decode cX11_question 111 = .ok (.iload_n 2, 1) := by decide +kernel
theorem dX11_question_112 : decode cX11_question 112 = .ok (.invokevirtual 248, 3) := by decide +kernel
theorem dX11_question_115 : decode cX11_question 115 = .ok (.if_icmp .ge 19, 3) := by decide +kernel
theorem dX11_question_118 : decode cX11_question 118 = .ok (.aload 4, 2) := by decide +kernel
theorem dX11_question_120 : decode cX11_question 120 = .ok (.iload_n 2, 1) := by decide +kernel
theorem dX11_question_121 : decode cX11_question 121 = .ok (.iload_n 3, 1) := by decide +kernel
theorem dX11_question_122 : decode cX11_question 122 = .ok (.bipush 10, 2) := by decide +kernel
theorem dX11_question_124 : decode cX11_question 124 = .ok (.isub, 1) := by decide +kernel
theorem dX11_question_125 : decode cX11_question 125 = .ok (.invokevirtual 251, 3) := by decide +kernel
theorem dX11_question_128 : decode cX11_question 128 = .ok (.invokestatic 199, 3) := by decide +kernel
theorem dX11_question_131 : decode cX11_question 131 = .ok (.goto 5, 3) := by decide +kernel
theorem dX11_question_134 : decode cX11_question 134 = .ok (.bipush (-2), 2) := by decide +kernel
theorem dX11_question_136 : decode cX11_question 136 = .ok (.ireturn, 1) := by decide +kernel
theorem dX11_holds_0 : decode cX11_holds 0 = .ok (.aload_n 0, 1) := by decide +kernel
theorem dX11_holds_1 : decode cX11_holds 1 = .ok (.getfield 10, 3) := by decide +kernel
theorem dX11_holds_4 : decode cX11_holds 4 = .ok (.iload_n 1, 1) := by decide +kernel
theorem dX11_holds_5 : decode cX11_holds 5 = .ok (.invokevirtual 86, 3) := by decide +kernel
theorem dX11_holds_8 : decode cX11_holds 8 = .ok (.astore 6, 2) := by decide +kernel
theorem dX11_holds_10 : decode cX11_holds 10 = .ok (.aload_n 0, 1) := by decide +kernel
theorem dX11_holds_11 : decode cX11_holds 11 = .ok (.getfield 10, 3) := by decide +kernel
theorem dX11_holds_14 : decode cX11_holds 14 = .ok (.iload_n 2, 1) := by decide +kernel
theorem dX11_holds_15 : decode cX11_holds 15 = .ok (.invokevirtual 231, 3) := by decide +kernel
theorem dX11_holds_18 : decode cX11_holds 18 = .ok (.astore 7, 2) := by decide +kernel
theorem dX11_holds_20 : decode cX11_holds 20 = .ok (.aload 6, 2) := by decide +kernel
theorem dX11_holds_22 : decode cX11_holds 22 = .ok (.ifnull 29, 3) := by decide +kernel
theorem dX11_holds_25 : decode cX11_holds 25 = .ok (.aload 7, 2) := by decide +kernel
theorem dX11_holds_27 : decode cX11_holds 27 = .ok (.ifnull 24, 3) := by decide +kernel
theorem dX11_holds_30 : decode cX11_holds 30 = .ok (.aload 7, 2) := by decide +kernel
theorem dX11_holds_32 : decode cX11_holds 32 = .ok (.iload_n 3, 1) := by decide +kernel
theorem dX11_holds_33 : decode cX11_holds 33 = .ok (.invokevirtual 239, 3) := by decide +kernel
theorem dX11_holds_36 : decode cX11_holds 36 = .ok (.ifCond .eq 15, 3) := by decide +kernel
theorem dX11_holds_39 : decode cX11_holds 39 = .ok (.aload 6, 2) := by decide +kernel
theorem dX11_holds_41 : decode cX11_holds 41 = .ok (.iload 4, 2) := by decide +kernel
theorem dX11_holds_43 : decode cX11_holds 43 = .ok (.iload 5, 2) := by decide +kernel
theorem dX11_holds_45 : decode cX11_holds 45 = .ok (.invokevirtual 140, 3) := by decide +kernel
theorem dX11_holds_48 : decode cX11_holds 48 = .ok (.ifCond .ne 5, 3) := by decide +kernel
theorem dX11_holds_51 : decode cX11_holds 51 = .ok (.iconst (-1), 1) := by decide +kernel
theorem dX11_holds_52 : decode cX11_holds 52 = .ok (.ireturn, 1) := by decide +kernel
theorem dX11_holds_53 : decode cX11_holds 53 = .ok (.aload_n 0, 1) := by decide +kernel
theorem dX11_holds_54 : decode cX11_holds 54 = .ok (.getfield 37, 3) := by decide +kernel
theorem dX11_holds_57 : decode cX11_holds 57 = .ok (.aload 6, 2) := by decide +kernel
theorem dX11_holds_59 : decode cX11_holds 59 = .ok (.aload 7, 2) := by decide +kernel
theorem dX11_holds_61 : decode cX11_holds 61 = .ok (.iload_n 3, 1) := by decide +kernel
theorem dX11_holds_62 : decode cX11_holds 62 = .ok (.invokevirtual 254, 3) := by decide +kernel
theorem dX11_holds_65 : decode cX11_holds 65 = .ok (.aload_n 0, 1) := by decide +kernel
theorem dX11_holds_66 : decode cX11_holds 66 = .ok (.getfield 37, 3) := by decide +kernel
theorem dX11_holds_69 : decode cX11_holds 69 = .ok (.iload_n 3, 1) := by decide +kernel
theorem dX11_holds_70 : decode cX11_holds 70 = .ok (.iload 4, 2) := by decide +kernel
theorem dX11_holds_72 : decode cX11_holds 72 = .ok (.invokevirtual 258, 3) := by decide +kernel
theorem dX11_holds_75 : decode cX11_holds 75 = .ok (.iload 5, 2) := by decide +kernel
theorem dX11_holds_77 : decode cX11_holds 77 = .ok (.invokestatic 261, 3) := by decide +kernel
theorem dX11_holds_80 : decode cX11_holds 80 = .ok (.ireturn, 1) := by decide +kernel
theorem dX11_spans_0 : decode cX11_spans 0 = .ok (.aload_n 0, 1) := by decide +kernel
theorem dX11_spans_1 : decode cX11_spans 1 = .ok (.getfield 10, 3) := by decide +kernel
theorem dX11_spans_4 : decode cX11_spans 4 = .ok (.iload_n 1, 1) := by decide +kernel
theorem dX11_spans_5 : decode cX11_spans 5 = .ok (.invokevirtual 86, 3) := by decide +kernel
theorem dX11_spans_8 : decode cX11_spans 8 = .ok (.astore 7, 2) := by decide +kernel
theorem dX11_spans_10 : decode cX11_spans 10 = .ok (.aload_n 0, 1) := by decide +kernel
theorem dX11_spans_11 : decode cX11_spans 11 = .ok (.getfield 10, 3) := by decide +kernel
theorem dX11_spans_14 : decode cX11_spans 14 = .ok (.iload_n 2, 1) := by decide +kernel
theorem dX11_spans_15 : decode cX11_spans 15 = .ok (.invokevirtual 231, 3) := by decide +kernel
theorem dX11_spans_18 : decode cX11_spans 18 = .ok (.astore 8, 2) := by decide +kernel
theorem dX11_spans_20 : decode cX11_spans 20 = .ok (.aload 7, 2) := by decide +kernel
theorem dX11_spans_22 : decode cX11_spans 22 = .ok (.ifnull 27, 3) := by decide +kernel
theorem dX11_spans_25 : decode cX11_spans 25 = .ok (.aload 8, 2) := by decide +kernel
theorem dX11_spans_27 : decode cX11_spans 27 = .ok (.ifnull 22, 3) := by decide +kernel
theorem dX11_spans_30 : decode cX11_spans 30 = .ok (.aload 8, 2) := by decide +kernel
theorem dX11_spans_32 : decode cX11_spans 32 = .ok (.iload_n 3, 1) := by decide +kernel
theorem dX11_spans_33 : decode cX11_spans 33 = .ok (.invokevirtual 239, 3) := by decide +kernel
theorem dX11_spans_36 : decode cX11_spans 36 = .ok (.ifCond .eq 13, 3) := by decide +kernel
theorem dX11_spans_39 : decode cX11_spans 39 = .ok (.aload 7, 2) := by decide +kernel
theorem dX11_spans_41 : decode cX11_spans 41 = .ok (.iload 4, 2) := by decide +kernel
theorem dX11_spans_43 : decode cX11_spans 43 = .ok (.invokevirtual 122, 3) := by decide +kernel
theorem dX11_spans_46 : decode cX11_spans 46 = .ok (.ifCond .ne 5, 3) := by decide +kernel
theorem dX11_spans_49 : decode cX11_spans 49 = .ok (.iconst (-1), 1) := by decide +kernel
theorem dX11_spans_50 : decode cX11_spans 50 = .ok (.ireturn, 1) := by decide +kernel
theorem dX11_spans_51 : decode cX11_spans 51 = .ok (.aload_n 0, 1) := by decide +kernel
theorem dX11_spans_52 : decode cX11_spans 52 = .ok (.getfield 37, 3) := by decide +kernel
theorem dX11_spans_55 : decode cX11_spans 55 = .ok (.aload 7, 2) := by decide +kernel
theorem dX11_spans_57 : decode cX11_spans 57 = .ok (.aload 8, 2) := by decide +kernel
theorem dX11_spans_59 : decode cX11_spans 59 = .ok (.iload_n 3, 1) := by decide +kernel
theorem dX11_spans_60 : decode cX11_spans 60 = .ok (.invokevirtual 254, 3) := by decide +kernel
theorem dX11_spans_63 : decode cX11_spans 63 = .ok (.aload_n 0, 1) := by decide +kernel
theorem dX11_spans_64 : decode cX11_spans 64 = .ok (.getfield 37, 3) := by decide +kernel
theorem dX11_spans_67 : decode cX11_spans 67 = .ok (.iload_n 3, 1) := by decide +kernel
theorem dX11_spans_68 : decode cX11_spans 68 = .ok (.iload 4, 2) := by decide +kernel
theorem dX11_spans_70 : decode cX11_spans 70 = .ok (.invokevirtual 258, 3) := by decide +kernel
theorem dX11_spans_73 : decode cX11_spans 73 = .ok (.istore 9, 2) := by decide +kernel
theorem dX11_spans_75 : decode cX11_spans 75 = .ok (.iload 5, 2) := by decide +kernel
theorem dX11_spans_77 : decode cX11_spans 77 = .ok (.iconst (-1), 1) := by decide +kernel
theorem dX11_spans_78 : decode cX11_spans 78 = .ok (.if_icmp .ne 9, 3) := by decide +kernel
theorem dX11_spans_81 : decode cX11_spans 81 = .ok (.iload 9, 2) := by decide +kernel
theorem dX11_spans_83 : decode cX11_spans 83 = .ok (.invokestatic 190, 3) := by decide +kernel
theorem dX11_spans_86 : decode cX11_spans 86 = .ok (.ireturn, 1) := by decide +kernel
theorem dX11_spans_87 : decode cX11_spans 87 = .ok (.iload 9, 2) := by decide +kernel
theorem dX11_spans_89 : decode cX11_spans 89 = .ok (.iload 5, 2) := by decide +kernel
theorem dX11_spans_91 : decode cX11_spans 91 = .ok (.invokestatic 264, 3) := by decide +kernel
theorem dX11_spans_94 : decode cX11_spans 94 = .ok (.istore 10, 2) := by decide +kernel
theorem dX11_spans_96 : decode cX11_spans 96 = .ok (.iload 6, 2) := by decide +kernel
theorem dX11_spans_98 : decode cX11_spans 98 = .ok (.ifCond .eq 11, 3) := by decide +kernel
theorem dX11_spans_101 : decode cX11_spans 101 = .ok (.iload 10, 2) := by decide +kernel
theorem dX11_spans_103 : decode cX11_spans 103 = .ok (.invokestatic 182, 3) := by decide +kernel
theorem dX11_spans_106 : decode cX11_spans 106 = .ok (.goto 8, 3) := by decide +kernel
theorem dX11_spans_109 : decode cX11_spans 109 = .ok (.iload 10, 2) := by decide +kernel
theorem dX11_spans_111 : decode cX11_spans 111 = .ok (.invokestatic 177, 3) := by decide +kernel
theorem dX11_spans_114 : decode cX11_spans 114 = .ok (.ireturn, 1) := by decide +kernel
theorem dX11_times_0 : decode cX11_times 0 = .ok (.aload_n 0, 1) := by decide +kernel
theorem dX11_times_1 : decode cX11_times 1 = .ok (.getfield 10, 3) := by decide +kernel
theorem dX11_times_4 : decode cX11_times 4 = .ok (.iload_n 1, 1) := by decide +kernel
theorem dX11_times_5 : decode cX11_times 5 = .ok (.invokevirtual 86, 3) := by decide +kernel
theorem dX11_times_8 : decode cX11_times 8 = .ok (.astore 6, 2) := by decide +kernel
theorem dX11_times_10 : decode cX11_times 10 = .ok (.aload_n 0, 1) := by decide +kernel
theorem dX11_times_11 : decode cX11_times 11 = .ok (.getfield 10, 3) := by decide +kernel
theorem dX11_times_14 : decode cX11_times 14 = .ok (.iload_n 2, 1) := by decide +kernel
theorem dX11_times_15 : decode cX11_times 15 = .ok (.invokevirtual 231, 3) := by decide +kernel
theorem dX11_times_18 : decode cX11_times 18 = .ok (.astore 7, 2) := by decide +kernel
theorem dX11_times_20 : decode cX11_times 20 = .ok (.aload 6, 2) := by decide +kernel
theorem dX11_times_22 : decode cX11_times 22 = .ok (.ifnull 29, 3) := by decide +kernel
theorem dX11_times_25 : decode cX11_times 25 = .ok (.aload 7, 2) := by decide +kernel
theorem dX11_times_27 : decode cX11_times 27 = .ok (.ifnull 24, 3) := by decide +kernel
theorem dX11_times_30 : decode cX11_times 30 = .ok (.aload 7, 2) := by decide +kernel
theorem dX11_times_32 : decode cX11_times 32 = .ok (.iload_n 3, 1) := by decide +kernel
theorem dX11_times_33 : decode cX11_times 33 = .ok (.invokevirtual 239, 3) := by decide +kernel
theorem dX11_times_36 : decode cX11_times 36 = .ok (.ifCond .eq 15, 3) := by decide +kernel
theorem dX11_times_39 : decode cX11_times 39 = .ok (.aload 6, 2) := by decide +kernel
theorem dX11_times_41 : decode cX11_times 41 = .ok (.iload 4, 2) := by decide +kernel
theorem dX11_times_43 : decode cX11_times 43 = .ok (.iload 5, 2) := by decide +kernel
theorem dX11_times_45 : decode cX11_times 45 = .ok (.invokevirtual 140, 3) := by decide +kernel
theorem dX11_times_48 : decode cX11_times 48 = .ok (.ifCond .ne 5, 3) := by decide +kernel
theorem dX11_times_51 : decode cX11_times 51 = .ok (.iconst (-1), 1) := by decide +kernel
theorem dX11_times_52 : decode cX11_times 52 = .ok (.ireturn, 1) := by decide +kernel
theorem dX11_times_53 : decode cX11_times 53 = .ok (.aload 7, 2) := by decide +kernel
theorem dX11_times_55 : decode cX11_times 55 = .ok (.iload_n 3, 1) := by decide +kernel
theorem dX11_times_56 : decode cX11_times 56 = .ok (.invokevirtual 242, 3) := by decide +kernel
theorem dX11_times_59 : decode cX11_times 59 = .ok (.ifCond .ne 22, 3) := by decide +kernel
theorem dX11_times_62 : decode cX11_times 62 = .ok (.aload_n 0, 1) := by decide +kernel
theorem dX11_times_63 : decode cX11_times 63 = .ok (.getfield 37, 3) := by decide +kernel
theorem dX11_times_66 : decode cX11_times 66 = .ok (.aload 6, 2) := by decide +kernel
theorem dX11_times_68 : decode cX11_times 68 = .ok (.aload 7, 2) := by decide +kernel
theorem dX11_times_70 : decode cX11_times 70 = .ok (.iload_n 3, 1) := by decide +kernel
theorem dX11_times_71 : decode cX11_times 71 = .ok (.iload 4, 2) := by decide +kernel
theorem dX11_times_73 : decode cX11_times 73 = .ok (.iload 5, 2) := by decide +kernel
theorem dX11_times_75 : decode cX11_times 75 = .ok (.invokevirtual 267, 3) := by decide +kernel
theorem dX11_times_78 : decode cX11_times 78 = .ok (.goto 4, 3) := by decide +kernel
theorem dX11_times_81 : decode cX11_times 81 = .ok (.iconst (-1), 1) := by decide +kernel
theorem dX11_times_82 : decode cX11_times 82 = .ok (.ireturn, 1) := by decide +kernel
theorem dX11_found_0 : decode cX11_found 0 = .ok (.aload_n 0, 1) := by decide +kernel
theorem dX11_found_1 : decode cX11_found 1 = .ok (.getfield 10, 3) := by decide +kernel
theorem dX11_found_4 : decode cX11_found 4 = .ok (.iload_n 1, 1) := by decide +kernel
theorem dX11_found_5 : decode cX11_found 5 = .ok (.invokevirtual 86, 3) := by decide +kernel
theorem dX11_found_8 : decode cX11_found 8 = .ok (.astore 5, 2) := by decide +kernel
theorem dX11_found_10 : decode cX11_found 10 = .ok (.aload_n 0, 1) := by decide +kernel
theorem dX11_found_11 : decode cX11_found 11 = .ok (.getfield 10, 3) := by decide +kernel
theorem dX11_found_14 : decode cX11_found 14 = .ok (.iload_n 2, 1) := by decide +kernel
theorem dX11_found_15 : decode cX11_found 15 = .ok (.invokevirtual 231, 3) := by decide +kernel
theorem dX11_found_18 : decode cX11_found 18 = .ok (.astore 6, 2) := by decide +kernel
theorem dX11_found_20 : decode cX11_found 20 = .ok (.aload 5, 2) := by decide +kernel
theorem dX11_found_22 : decode cX11_found 22 = .ok (.ifnull 17, 3) := by decide +kernel
theorem dX11_found_25 : decode cX11_found 25 = .ok (.aload 6, 2) := by decide +kernel
theorem dX11_found_27 : decode cX11_found 27 = .ok (.ifnull 12, 3) := by decide +kernel
theorem dX11_found_30 : decode cX11_found 30 = .ok (.aload 6, 2) := by decide +kernel
theorem dX11_found_32 : decode cX11_found 32 = .ok (.iload_n 3, 1) := by decide +kernel
theorem dX11_found_33 : decode cX11_found 33 = .ok (.invokevirtual 239, 3) := by decide +kernel
theorem dX11_found_36 : decode cX11_found 36 = .ok (.ifCond .ne 5, 3) := by decide +kernel
theorem dX11_found_39 : decode cX11_found 39 = .ok (.iconst (-1), 1) := by decide +kernel
theorem dX11_found_40 : decode cX11_found 40 = .ok (.ireturn, 1) := by decide +kernel
theorem dX11_found_41 : decode cX11_found 41 = .ok (.aload_n 0, 1) := by decide +kernel
theorem dX11_found_42 : decode cX11_found 42 = .ok (.getfield 37, 3) := by decide +kernel
theorem dX11_found_45 : decode cX11_found 45 = .ok (.aload 5, 2) := by decide +kernel
theorem dX11_found_47 : decode cX11_found 47 = .ok (.aload 6, 2) := by decide +kernel
theorem dX11_found_49 : decode cX11_found 49 = .ok (.iload_n 3, 1) := by decide +kernel
theorem dX11_found_50 : decode cX11_found 50 = .ok (.invokevirtual 254, 3) := by decide +kernel
theorem dX11_found_53 : decode cX11_found 53 = .ok (.iload 4, 2) := by decide +kernel
theorem dX11_found_55 : decode cX11_found 55 = .ok (.tableswitch 73 0 3 #[29, 40, 51, 62], 29) := by decide +kernel
theorem dX11_found_84 : decode cX11_found 84 = .ok (.aload_n 0, 1) := by decide +kernel
theorem dX11_found_85 : decode cX11_found 85 = .ok (.getfield 37, 3) := by decide +kernel
theorem dX11_found_88 : decode cX11_found 88 = .ok (.aload 5, 2) := by decide +kernel
theorem dX11_found_90 : decode cX11_found 90 = .ok (.iload_n 3, 1) := by decide +kernel
theorem dX11_found_91 : decode cX11_found 91 = .ok (.invokevirtual 271, 3) := by decide +kernel
theorem dX11_found_94 : decode cX11_found 94 = .ok (.ireturn, 1) := by decide +kernel
theorem dX11_found_95 : decode cX11_found 95 = .ok (.aload_n 0, 1) := by decide +kernel
theorem dX11_found_96 : decode cX11_found 96 = .ok (.getfield 37, 3) := by decide +kernel
theorem dX11_found_99 : decode cX11_found 99 = .ok (.aload 5, 2) := by decide +kernel
theorem dX11_found_101 : decode cX11_found 101 = .ok (.iload_n 3, 1) := by decide +kernel
theorem dX11_found_102 : decode cX11_found 102 = .ok (.invokevirtual 274, 3) := by decide +kernel
theorem dX11_found_105 : decode cX11_found 105 = .ok (.ireturn, 1) := by decide +kernel
theorem dX11_found_106 : decode cX11_found 106 = .ok (.aload_n 0, 1) := by decide +kernel
theorem dX11_found_107 : decode cX11_found 107 = .ok (.getfield 37, 3) := by decide +kernel
theorem dX11_found_110 : decode cX11_found 110 = .ok (.aload 5, 2) := by decide +kernel
theorem dX11_found_112 : decode cX11_found 112 = .ok (.iload_n 3, 1) := by decide +kernel
theorem dX11_found_113 : decode cX11_found 113 = .ok (.invokevirtual 277, 3) := by decide +kernel
theorem dX11_found_116 : decode cX11_found 116 = .ok (.ireturn, 1) := by decide +kernel
theorem dX11_found_117 : decode cX11_found 117 = .ok (.aload_n 0, 1) := by decide +kernel
theorem dX11_found_118 : decode cX11_found 118 = .ok (.getfield 37, 3) := by decide +kernel
theorem dX11_found_121 : decode cX11_found 121 = .ok (.aload 5, 2) := by decide +kernel
theorem dX11_found_123 : decode cX11_found 123 = .ok (.iload_n 3, 1) := by decide +kernel
theorem dX11_found_124 : decode cX11_found 124 = .ok (.invokevirtual 280, 3) := by decide +kernel
theorem dX11_found_127 : decode cX11_found 127 = .ok (.ireturn, 1) := by decide +kernel
theorem dX11_found_128 : decode cX11_found 128 = .ok (.aload_n 0, 1) := by decide +kernel
theorem dX11_found_129 : decode cX11_found 129 = .ok (.aload 5, 2) := by decide +kernel
theorem dX11_found_131 : decode cX11_found 131 = .ok (.iload_n 3, 1) := by decide +kernel
theorem dX11_found_132 : decode cX11_found 132 = .ok (.iload 4, 2) := by decide +kernel
theorem dX11_found_134 : decode cX11_found 134 = .ok (.invokevirtual 283, 3) := by decide +kernel
theorem dX11_found_137 : decode cX11_found 137 = .ok (.ireturn, 1) := by decide +kernel
theorem dX11_foundAt_0 : decode cX11_foundAt 0 = .ok (.iload_n 3, 1) := by decide +kernel
theorem dX11_foundAt_1 : decode cX11_foundAt 1 = .ok (.bipush 10, 2) := by decide +kernel
theorem dX11_foundAt_3 : decode cX11_foundAt 3 = .ok (.if_icmp .ge 5, 3) := by decide +kernel
theorem dX11_foundAt_6 : decode cX11_foundAt 6 = .ok (.iconst (-1), 1) := by decide +kernel
theorem dX11_foundAt_7 : decode cX11_foundAt 7 = .ok (.ireturn, 1) := by decide +kernel
theorem dX11_foundAt_8 : decode cX11_foundAt 8 = .ok (.iload_n 3, 1) := by decide +kernel
theorem dX11_foundAt_9 : decode cX11_foundAt 9 = .ok (.bipush 100, 2) := by decide +kernel
theorem dX11_foundAt_11 : decode cX11_foundAt 11 = .ok (.if_icmp .ge 17, 3) := by decide +kernel
theorem dX11_foundAt_14 : decode cX11_foundAt 14 = .ok (.aload_n 0, 1) := by decide +kernel
theorem dX11_foundAt_15 : decode cX11_foundAt 15 = .ok (.getfield 37, 3) := by decide +kernel
theorem dX11_foundAt_18 : decode cX11_foundAt 18 = .ok (.aload_n 1, 1) := by decide +kernel
theorem dX11_foundAt_19 : decode cX11_foundAt 19 = .ok (.iload_n 2, 1) := by decide +kernel
theorem dX11_foundAt_20 : decode cX11_foundAt 20 = .ok (.iload_n 3, 1) := by decide +kernel
theorem dX11_foundAt_21 : decode cX11_foundAt 21 = .ok (.bipush 10, 2) := by decide +kernel
theorem dX11_foundAt_23 : decode cX11_foundAt 23 = .ok (.isub, 1) := by decide +kernel
theorem dX11_foundAt_24 : decode cX11_foundAt 24 = .ok (.invokevirtual 286, 3) := by decide +kernel
theorem dX11_foundAt_27 : decode cX11_foundAt 27 = .ok (.ireturn, 1) := by decide +kernel
theorem dX11_foundAt_28 : decode cX11_foundAt 28 = .ok (.iload_n 3, 1) := by decide +kernel
theorem dX11_foundAt_29 : decode cX11_foundAt 29 = .ok (.sipush 200, 3) := by decide +kernel
theorem dX11_foundAt_32 : decode cX11_foundAt 32 = .ok (.if_icmp .ge 19, 3) := by decide +kernel
theorem dX11_foundAt_35 : decode cX11_foundAt 35 = .ok (.aload_n 0, 1) := by decide +kernel
theorem dX11_foundAt_36 : decode cX11_foundAt 36 = .ok (.getfield 37, 3) := by decide +kernel
theorem dX11_foundAt_39 : decode cX11_foundAt 39 = .ok (.aload_n 1, 1) := by decide +kernel
theorem dX11_foundAt_40 : decode cX11_foundAt 40 = .ok (.iload_n 2, 1) := by decide +kernel
theorem dX11_foundAt_41 : decode cX11_foundAt 41 = .ok (.iload_n 3, 1) := by decide +kernel
theorem dX11_foundAt_42 : decode cX11_foundAt 42 = .ok (.bipush 100, 2) := by decide +kernel
theorem dX11_foundAt_44 : decode cX11_foundAt 44 = .ok (.isub, 1) := by decide +kernel
theorem dX11_foundAt_45 : decode cX11_foundAt 45 = .ok (.invokevirtual 289, 3) := by decide +kernel
theorem dX11_foundAt_48 : decode cX11_foundAt 48 = .ok (.goto 17, 3) := by decide +kernel
theorem dX11_foundAt_51 : decode cX11_foundAt 51 = .ok (.aload_n 0, 1) := by decide +kernel
theorem dX11_foundAt_52 : decode cX11_foundAt 52 = .ok (.getfield 37, 3) := by decide +kernel
theorem dX11_foundAt_55 : decode cX11_foundAt 55 = .ok (.aload_n 1, 1) := by decide +kernel
theorem dX11_foundAt_56 : decode cX11_foundAt 56 = .ok (.iload_n 2, 1) := by decide +kernel
theorem dX11_foundAt_57 : decode cX11_foundAt 57 = .ok (.iload_n 3, 1) := by decide +kernel
theorem dX11_foundAt_58 : decode cX11_foundAt 58 = .ok (.sipush 200, 3) := by decide +kernel
theorem dX11_foundAt_61 : decode cX11_foundAt 61 = .ok (.isub, 1) := by decide +kernel
theorem dX11_foundAt_62 : decode cX11_foundAt 62 = .ok (.invokevirtual 292, 3) := by decide +kernel
theorem dX11_foundAt_65 : decode cX11_foundAt 65 = .ok (.ireturn, 1) := by decide +kernel
theorem dX11_best_0 : decode cX11_best 0 = .ok (.aload_n 0, 1) := by decide +kernel
theorem dX11_best_1 : decode cX11_best 1 = .ok (.getfield 10, 3) := by decide +kernel
theorem dX11_best_4 : decode cX11_best 4 = .ok (.iload_n 1, 1) := by decide +kernel
theorem dX11_best_5 : decode cX11_best 5 = .ok (.invokevirtual 86, 3) := by decide +kernel
theorem dX11_best_8 : decode cX11_best 8 = .ok (.astore 4, 2) := by decide +kernel
theorem dX11_best_10 : decode cX11_best 10 = .ok (.aload_n 0, 1) := by decide +kernel
theorem dX11_best_11 : decode cX11_best 11 = .ok (.getfield 10, 3) := by decide +kernel
theorem dX11_best_14 : decode cX11_best 14 = .ok (.iload_n 2, 1) := by decide +kernel
theorem dX11_best_15 : decode cX11_best 15 = .ok (.invokevirtual 231, 3) := by decide +kernel
theorem dX11_best_18 : decode cX11_best 18 = .ok (.astore 5, 2) := by decide +kernel
theorem dX11_best_20 : decode cX11_best 20 = .ok (.aload 4, 2) := by decide +kernel
theorem dX11_best_22 : decode cX11_best 22 = .ok (.ifnull 8, 3) := by decide +kernel
theorem dX11_best_25 : decode cX11_best 25 = .ok (.aload 5, 2) := by decide +kernel
theorem dX11_best_27 : decode cX11_best 27 = .ok (.ifnonnull 6, 3) := by decide +kernel
theorem dX11_best_30 : decode cX11_best 30 = .ok (.bipush (-2), 2) := by decide +kernel
theorem dX11_best_32 : decode cX11_best 32 = .ok (.ireturn, 1) := by decide +kernel
theorem dX11_best_33 : decode cX11_best 33 = .ok (.aload_n 0, 1) := by decide +kernel
theorem dX11_best_34 : decode cX11_best 34 = .ok (.getfield 37, 3) := by decide +kernel
theorem dX11_best_37 : decode cX11_best 37 = .ok (.aload 4, 2) := by decide +kernel
theorem dX11_best_39 : decode cX11_best 39 = .ok (.aload 5, 2) := by decide +kernel
theorem dX11_best_41 : decode cX11_best 41 = .ok (.aload 5, 2) := by decide +kernel
theorem dX11_best_43 : decode cX11_best 43 = .ok (.getfield 235, 3) := by decide +kernel
theorem dX11_best_46 : decode cX11_best 46 = .ok (.iconst 1, 1) := by decide +kernel
theorem dX11_best_47 : decode cX11_best 47 = .ok (.isub, 1) := by decide +kernel
theorem dX11_best_48 : decode cX11_best 48 = .ok (.invokevirtual 254, 3) := by decide +kernel
theorem dX11_best_51 : decode cX11_best 51 = .ok (.iload_n 3, 1) := by decide +kernel
theorem dX11_best_52 : decode cX11_best 52 = .ok (.lookupswitch 52 #[(0, 28), (1, 40)], 28) := by decide +kernel
theorem dX11_best_80 : decode cX11_best 80 = .ok (.aload_n 0, 1) := by decide +kernel
theorem dX11_best_81 : decode cX11_best 81 = .ok (.getfield 37, 3) := by decide +kernel
theorem dX11_best_84 : decode cX11_best 84 = .ok (.aload 4, 2) := by decide +kernel
theorem dX11_best_86 : decode cX11_best 86 = .ok (.aload 5, 2) := by decide +kernel
theorem dX11_best_88 : decode cX11_best 88 = .ok (.invokevirtual 295, 3) := by decide +kernel
theorem dX11_best_91 : decode cX11_best 91 = .ok (.ireturn, 1) := by decide +kernel
theorem dX11_best_92 : decode cX11_best 92 = .ok (.aload_n 0, 1) := by decide +kernel
theorem dX11_best_93 : decode cX11_best 93 = .ok (.getfield 37, 3) := by decide +kernel
theorem dX11_best_96 : decode cX11_best 96 = .ok (.aload 4, 2) := by decide +kernel
theorem dX11_best_98 : decode cX11_best 98 = .ok (.aload 5, 2) := by decide +kernel
theorem dX11_best_100 : decode cX11_best 100 = .ok (.invokevirtual 299, 3) := by decide +kernel
theorem dX11_best_103 : decode cX11_best 103 = .ok (.ireturn, 1) := by decide +kernel
theorem dX11_best_104 : decode cX11_best 104 = .ok (.bipush (-2), 2) := by decide +kernel
theorem dX11_best_106 : decode cX11_best 106 = .ok (.ireturn, 1) := by decide +kernel
theorem dX11_implies_0 : decode cX11_implies 0 = .ok (.aload_n 0, 1) := by decide +kernel
theorem dX11_implies_1 : decode cX11_implies 1 = .ok (.getfield 10, 3) := by decide +kernel
theorem dX11_implies_4 : decode cX11_implies 4 = .ok (.iload_n 1, 1) := by decide +kernel
theorem dX11_implies_5 : decode cX11_implies 5 = .ok (.invokevirtual 86, 3) := by decide +kernel
theorem dX11_implies_8 : decode cX11_implies 8 = .ok (.astore 5, 2) := by decide +kernel
theorem dX11_implies_10 : decode cX11_implies 10 = .ok (.aload_n 0, 1) := by decide +kernel
theorem dX11_implies_11 : decode cX11_implies 11 = .ok (.getfield 10, 3) := by decide +kernel
theorem dX11_implies_14 : decode cX11_implies 14 = .ok (.iload_n 2, 1) := by decide +kernel
theorem dX11_implies_15 : decode cX11_implies 15 = .ok (.invokevirtual 231, 3) := by decide +kernel
theorem dX11_implies_18 : decode cX11_implies 18 = .ok (.astore 6, 2) := by decide +kernel
theorem dX11_implies_20 : decode cX11_implies 20 = .ok (.aload 5, 2) := by decide +kernel
theorem dX11_implies_22 : decode cX11_implies 22 = .ok (.ifnull 27, 3) := by decide +kernel
theorem dX11_implies_25 : decode cX11_implies 25 = .ok (.aload 6, 2) := by decide +kernel
theorem dX11_implies_27 : decode cX11_implies 27 = .ok (.ifnull 22, 3) := by decide +kernel
theorem dX11_implies_30 : decode cX11_implies 30 = .ok (.aload 6, 2) := by decide +kernel
theorem dX11_implies_32 : decode cX11_implies 32 = .ok (.iload_n 3, 1) := by decide +kernel
theorem dX11_implies_33 : decode cX11_implies 33 = .ok (.invokevirtual 239, 3) := by decide +kernel
theorem dX11_implies_36 : decode cX11_implies 36 = .ok (.ifCond .eq 13, 3) := by decide +kernel
theorem dX11_implies_39 : decode cX11_implies 39 = .ok (.aload 6, 2) := by decide +kernel
theorem dX11_implies_41 : decode cX11_implies 41 = .ok (.iload 4, 2) := by decide +kernel
theorem dX11_implies_43 : decode cX11_implies 43 = .ok (.invokevirtual 239, 3) := by decide +kernel
theorem dX11_implies_46 : decode cX11_implies 46 = .ok (.ifCond .ne 5, 3) := by decide +kernel
theorem dX11_implies_49 : decode cX11_implies 49 = .ok (.iconst (-1), 1) := by decide +kernel
theorem dX11_implies_50 : decode cX11_implies 50 = .ok (.ireturn, 1) := by decide +kernel
theorem dX11_implies_51 : decode cX11_implies 51 = .ok (.aload_n 0, 1) := by decide +kernel
theorem dX11_implies_52 : decode cX11_implies 52 = .ok (.getfield 37, 3) := by decide +kernel
theorem dX11_implies_55 : decode cX11_implies 55 = .ok (.aload 5, 2) := by decide +kernel
theorem dX11_implies_57 : decode cX11_implies 57 = .ok (.aload 6, 2) := by decide +kernel
theorem dX11_implies_59 : decode cX11_implies 59 = .ok (.iload_n 3, 1) := by decide +kernel
theorem dX11_implies_60 : decode cX11_implies 60 = .ok (.iload 4, 2) := by decide +kernel
theorem dX11_implies_62 : decode cX11_implies 62 = .ok (.invokestatic 302, 3) := by decide +kernel
theorem dX11_implies_65 : decode cX11_implies 65 = .ok (.invokevirtual 254, 3) := by decide +kernel
theorem dX11_implies_68 : decode cX11_implies 68 = .ok (.aload_n 0, 1) := by decide +kernel
theorem dX11_implies_69 : decode cX11_implies 69 = .ok (.getfield 37, 3) := by decide +kernel
theorem dX11_implies_72 : decode cX11_implies 72 = .ok (.aload 5, 2) := by decide +kernel
theorem dX11_implies_74 : decode cX11_implies 74 = .ok (.iload_n 3, 1) := by decide +kernel
theorem dX11_implies_75 : decode cX11_implies 75 = .ok (.iload 4, 2) := by decide +kernel
theorem dX11_implies_77 : decode cX11_implies 77 = .ok (.invokevirtual 307, 3) := by decide +kernel
theorem dX11_implies_80 : decode cX11_implies 80 = .ok (.ifCond .eq 7, 3) := by decide +kernel
theorem dX11_implies_83 : decode cX11_implies 83 = .ok (.iconst 1, 1) := by decide +kernel
theorem dX11_implies_84 : decode cX11_implies 84 = .ok (.goto 4, 3) := by decide +kernel
theorem dX11_implies_87 : decode cX11_implies 87 = .ok (.iconst 0, 1) := by decide +kernel
theorem dX11_implies_88 : decode cX11_implies 88 = .ok (.ireturn, 1) := by decide +kernel
theorem dX11_fact_0 : decode cX11_fact 0 = .ok (.aload_n 0, 1) := by decide +kernel
theorem dX11_fact_1 : decode cX11_fact 1 = .ok (.getfield 10, 3) := by decide +kernel
theorem dX11_fact_4 : decode cX11_fact 4 = .ok (.iload_n 1, 1) := by decide +kernel
theorem dX11_fact_5 : decode cX11_fact 5 = .ok (.invokevirtual 311, 3) := by decide +kernel
theorem dX11_fact_8 : decode cX11_fact 8 = .ok (.astore 4, 2) := by decide +kernel
theorem dX11_fact_10 : decode cX11_fact 10 = .ok (.aload 4, 2) := by decide +kernel
theorem dX11_fact_12 : decode cX11_fact 12 = .ok (.ifnonnull 6, 3) := by decide +kernel
theorem dX11_fact_15 : decode cX11_fact 15 = .ok (.bipush (-2), 2) := by decide +kernel
theorem dX11_fact_17 : decode cX11_fact 17 = .ok (.ireturn, 1) := by decide +kernel
theorem dX11_fact_18 : decode cX11_fact 18 = .ok (.iload_n 2, 1) := by decide +kernel
theorem dX11_fact_19 : decode cX11_fact 19 = .ok (.iconst (-1), 1) := by decide +kernel
theorem dX11_fact_20 : decode cX11_fact 20 = .ok (.if_icmp .ne 18, 3) := by decide +kernel
theorem dX11_fact_23 : decode cX11_fact 23 = .ok (.iload_n 3, 1) := by decide +kernel
theorem dX11_fact_24 : decode cX11_fact 24 = .ok (.ifCond .ne 11, 3) := by decide +kernel
theorem dX11_fact_27 : decode cX11_fact 27 = .ok (.aload 4, 2) := by decide +kernel
theorem dX11_fact_29 : decode cX11_fact 29 = .ok (.getfield 315, 3) := by decide +kernel
theorem dX11_fact_32 : decode cX11_fact 32 = .ok (.goto 5, 3) := by decide +kernel
theorem dX11_fact_35 : decode cX11_fact 35 = .ok (.bipush (-2), 2) := by decide +kernel
theorem dX11_fact_37 : decode cX11_fact 37 = .ok (.ireturn, 1) := by decide +kernel
theorem dX11_fact_38 : decode cX11_fact 38 = .ok (.aload 4, 2) := by decide +kernel
theorem dX11_fact_40 : decode cX11_fact 40 = .ok (.iload_n 2, 1) := by decide +kernel
theorem dX11_fact_41 : decode cX11_fact 41 = .ok (.invokevirtual 318, 3) := by decide +kernel
theorem dX11_fact_44 : decode cX11_fact 44 = .ok (.ifCond .eq 22, 3) := by decide +kernel
theorem dX11_fact_47 : decode cX11_fact 47 = .ok (.iload_n 3, 1) := by decide +kernel
theorem dX11_fact_48 : decode cX11_fact 48 = .ok (.ifCond .lt 18, 3) := by decide +kernel
theorem dX11_fact_51 : decode cX11_fact 51 = .ok (.iload_n 3, 1) := by decide +kernel
theorem dX11_fact_52 : decode cX11_fact 52 = .ok (.iconst 3, 1) := by decide +kernel
theorem dX11_fact_53 : decode cX11_fact 53 = .ok (.if_icmp .ge 13, 3) := by decide +kernel
theorem dX11_fact_56 : decode cX11_fact 56 = .ok (.aload 4, 2) := by decide +kernel
theorem dX11_fact_58 : decode cX11_fact 58 = .ok (.iload_n 2, 1) := by decide +kernel
theorem dX11_fact_59 : decode cX11_fact 59 = .ok (.iload_n 3, 1) := by decide +kernel
theorem dX11_fact_60 : decode cX11_fact 60 = .ok (.invokevirtual 319, 3) := by decide +kernel
theorem dX11_fact_63 : decode cX11_fact 63 = .ok (.goto 5, 3) := by decide +kernel
theorem dX11_fact_66 : decode cX11_fact 66 = .ok (.bipush (-2), 2) := by decide +kernel
theorem dX11_fact_68 : decode cX11_fact 68 = .ok (.ireturn, 1) := by decide +kernel
theorem dX11_fits_0 : decode cX11_fits 0 = .ok (.aload_n 0, 1) := by decide +kernel
theorem dX11_fits_1 : decode cX11_fits 1 = .ok (.getfield 10, 3) := by decide +kernel
theorem dX11_fits_4 : decode cX11_fits 4 = .ok (.iload_n 1, 1) := by decide +kernel
theorem dX11_fits_5 : decode cX11_fits 5 = .ok (.invokevirtual 86, 3) := by decide +kernel
theorem dX11_fits_8 : decode cX11_fits 8 = .ok (.astore 4, 2) := by decide +kernel
theorem dX11_fits_10 : decode cX11_fits 10 = .ok (.aload_n 0, 1) := by decide +kernel
theorem dX11_fits_11 : decode cX11_fits 11 = .ok (.getfield 10, 3) := by decide +kernel
theorem dX11_fits_14 : decode cX11_fits 14 = .ok (.iload_n 2, 1) := by decide +kernel
theorem dX11_fits_15 : decode cX11_fits 15 = .ok (.invokevirtual 311, 3) := by decide +kernel
theorem dX11_fits_18 : decode cX11_fits 18 = .ok (.astore 5, 2) := by decide +kernel
theorem dX11_fits_20 : decode cX11_fits 20 = .ok (.aload 4, 2) := by decide +kernel
theorem dX11_fits_22 : decode cX11_fits 22 = .ok (.ifnull 8, 3) := by decide +kernel
theorem dX11_fits_25 : decode cX11_fits 25 = .ok (.aload 5, 2) := by decide +kernel
theorem dX11_fits_27 : decode cX11_fits 27 = .ok (.ifnonnull 6, 3) := by decide +kernel
theorem dX11_fits_30 : decode cX11_fits 30 = .ok (.bipush (-2), 2) := by decide +kernel
theorem dX11_fits_32 : decode cX11_fits 32 = .ok (.ireturn, 1) := by decide +kernel
theorem dX11_fits_33 : decode cX11_fits 33 = .ok (.iload_n 3, 1) := by decide +kernel
theorem dX11_fits_34 : decode cX11_fits 34 = .ok (.tableswitch 50 0 2 #[26, 34, 42], 26) := by decide +kernel
theorem dX11_fits_60 : decode cX11_fits 60 = .ok (.aload 5, 2) := by decide +kernel
theorem dX11_fits_62 : decode cX11_fits 62 = .ok (.aload 4, 2) := by decide +kernel
theorem dX11_fits_64 : decode cX11_fits 64 = .ok (.invokevirtual 322, 3) := by decide +kernel
theorem dX11_fits_67 : decode cX11_fits 67 = .ok (.ireturn, 1) := by decide +kernel
theorem dX11_fits_68 : decode cX11_fits 68 = .ok (.aload 5, 2) := by decide +kernel
theorem dX11_fits_70 : decode cX11_fits 70 = .ok (.aload 4, 2) := by decide +kernel
theorem dX11_fits_72 : decode cX11_fits 72 = .ok (.invokevirtual 325, 3) := by decide +kernel
theorem dX11_fits_75 : decode cX11_fits 75 = .ok (.ireturn, 1) := by decide +kernel
theorem dX11_fits_76 : decode cX11_fits 76 = .ok (.aload 5, 2) := by decide +kernel
theorem dX11_fits_78 : decode cX11_fits 78 = .ok (.aload 4, 2) := by decide +kernel
theorem dX11_fits_80 : decode cX11_fits 80 = .ok (.invokevirtual 328, 3) := by decide +kernel
theorem dX11_fits_83 : decode cX11_fits 83 = .ok (.ireturn, 1) := by decide +kernel
theorem dX11_fits_84 : decode cX11_fits 84 = .ok (.iload_n 3, 1) := by decide +kernel
theorem dX11_fits_85 : decode cX11_fits 85 = .ok (.bipush 10, 2) := by decide +kernel
theorem dX11_fits_87 : decode cX11_fits 87 = .ok (.if_icmp .lt 17, 3) := by decide +kernel
theorem dX11_fits_90 : decode cX11_fits 90 = .ok (.aload 5, 2) := by decide +kernel
theorem dX11_fits_92 : decode cX11_fits 92 = .ok (.aload 4, 2) := by decide +kernel
theorem dX11_fits_94 : decode cX11_fits 94 = .ok (.iload_n 3, 1) := by decide +kernel
theorem dX11_fits_95 : decode cX11_fits 95 = .ok (.bipush 10, 2) := by decide +kernel
theorem dX11_fits_97 : decode cX11_fits 97 = .ok (.isub, 1) := by decide +kernel
theorem dX11_fits_98 : decode cX11_fits 98 = .ok (.invokevirtual 331, 3) := by decide +kernel
theorem dX11_fits_101 : decode cX11_fits 101 = .ok (.goto 5, 3) := by decide +kernel
theorem dX11_fits_104 : decode cX11_fits 104 = .ok (.bipush (-2), 2) := by decide +kernel
theorem dX11_fits_106 : decode cX11_fits 106 = .ok (.ireturn, 1) := by decide +kernel
theorem dX11_drawn_0 : decode cX11_drawn 0 = .ok (.aload_n 0, 1) := by decide +kernel
theorem dX11_drawn_1 : decode cX11_drawn 1 = .ok (.getfield 10, 3) := by decide +kernel
theorem dX11_drawn_4 : decode cX11_drawn 4 = .ok (.iload_n 1, 1) := by decide +kernel
theorem dX11_drawn_5 : decode cX11_drawn 5 = .ok (.invokevirtual 86, 3) := by decide +kernel
theorem dX11_drawn_8 : decode cX11_drawn 8 = .ok (.astore 6, 2) := by decide +kernel
theorem dX11_drawn_10 : decode cX11_drawn 10 = .ok (.aload 6, 2) := by decide +kernel
theorem dX11_drawn_12 : decode cX11_drawn 12 = .ok (.ifnull 23, 3) := by decide +kernel
theorem dX11_drawn_15 : decode cX11_drawn 15 = .ok (.aload 6, 2) := by decide +kernel
theorem dX11_drawn_17 : decode cX11_drawn 17 = .ok (.iload 4, 2) := by decide +kernel
theorem dX11_drawn_19 : decode cX11_drawn 19 = .ok (.invokevirtual 122, 3) := by decide +kernel
theorem dX11_drawn_22 : decode cX11_drawn 22 = .ok (.ifCond .eq 13, 3) := by decide +kernel
theorem dX11_drawn_25 : decode cX11_drawn 25 = .ok (.iload_n 3, 1) := by decide +kernel
theorem dX11_drawn_26 : decode cX11_drawn 26 = .ok (.ifCond .lt 9, 3) := by decide +kernel
theorem dX11_drawn_29 : decode cX11_drawn 29 = .ok (.iload_n 3, 1) := by decide +kernel
theorem dX11_drawn_30 : decode cX11_drawn 30 = .ok (.bipush 40, 2) := by decide +kernel
theorem dX11_drawn_32 : decode cX11_drawn 32 = .ok (.if_icmp .le 5, 3) := by decide +kernel
theorem dX11_drawn_35 : decode cX11_drawn 35 = .ok (.iconst (-1), 1) := by decide +kernel
theorem dX11_drawn_36 : decode cX11_drawn 36 = .ok (.ireturn, 1) := by decide +kernel
theorem dX11_drawn_37 : decode cX11_drawn 37 = .ok (.aload_n 0, 1) := by decide +kernel
theorem dX11_drawn_38 : decode cX11_drawn 38 = .ok (.getfield 44, 3) := by decide +kernel
theorem dX11_drawn_41 : decode cX11_drawn 41 = .ok (.aload 6, 2) := by decide +kernel
theorem dX11_drawn_43 : decode cX11_drawn 43 = .ok (.iload_n 2, 1) := by decide +kernel
theorem dX11_drawn_44 : decode cX11_drawn 44 = .ok (.iload_n 3, 1) := by decide +kernel
theorem dX11_drawn_45 : decode cX11_drawn 45 = .ok (.invokevirtual 334, 3) := by decide +kernel
theorem dX11_drawn_48 : decode cX11_drawn 48 = .ok (.astore 7, 2) := by decide +kernel
theorem dX11_drawn_50 : decode cX11_drawn 50 = .ok (.aload 7, 2) := by decide +kernel
theorem dX11_drawn_52 : decode cX11_drawn 52 = .ok (.iload 4, 2) := by decide +kernel
theorem dX11_drawn_54 : decode cX11_drawn 54 = .ok (.invokevirtual 126, 3) := by decide +kernel
theorem dX11_drawn_57 : decode cX11_drawn 57 = .ok (.iconst 1, 1) := by decide +kernel
theorem dX11_drawn_58 : decode cX11_drawn 58 = .ok (.isub, 1) := by decide +kernel
theorem dX11_drawn_59 : decode cX11_drawn 59 = .ok (.istore 8, 2) := by decide +kernel
theorem dX11_drawn_61 : decode cX11_drawn 61 = .ok (.iload 5, 2) := by decide +kernel
theorem dX11_drawn_63 : decode cX11_drawn 63 = .ok (.tableswitch 48 0 2 #[25, 30, 40], 25) := by decide +kernel
theorem dX11_drawn_88 : decode cX11_drawn 88 = .ok (.iload 8, 2) := by decide +kernel
theorem dX11_drawn_90 : decode cX11_drawn 90 = .ok (.iconst 1, 1) := by decide +kernel
theorem dX11_drawn_91 : decode cX11_drawn 91 = .ok (.iadd, 1) := by decide +kernel
theorem dX11_drawn_92 : decode cX11_drawn 92 = .ok (.ireturn, 1) := by decide +kernel
theorem dX11_drawn_93 : decode cX11_drawn 93 = .ok (.aload 7, 2) := by decide +kernel
theorem dX11_drawn_95 : decode cX11_drawn 95 = .ok (.iload 4, 2) := by decide +kernel
theorem dX11_drawn_97 : decode cX11_drawn 97 = .ok (.iload 8, 2) := by decide +kernel
theorem dX11_drawn_99 : decode cX11_drawn 99 = .ok (.invokevirtual 144, 3) := by decide +kernel
theorem dX11_drawn_102 : decode cX11_drawn 102 = .ok (.ireturn, 1) := by decide +kernel
theorem dX11_drawn_103 : decode cX11_drawn 103 = .ok (.aload 7, 2) := by decide +kernel
theorem dX11_drawn_105 : decode cX11_drawn 105 = .ok (.iload 4, 2) := by decide +kernel
theorem dX11_drawn_107 : decode cX11_drawn 107 = .ok (.invokevirtual 338, 3) := by decide +kernel
theorem dX11_drawn_110 : decode cX11_drawn 110 = .ok (.ireturn, 1) := by decide +kernel
theorem dX11_drawn_111 : decode cX11_drawn 111 = .ok (.iload 5, 2) := by decide +kernel
theorem dX11_drawn_113 : decode cX11_drawn 113 = .ok (.bipush 10, 2) := by decide +kernel
theorem dX11_drawn_115 : decode cX11_drawn 115 = .ok (.if_icmp .lt 20, 3) := by decide +kernel
theorem dX11_drawn_118 : decode cX11_drawn 118 = .ok (.aload 7, 2) := by decide +kernel
theorem dX11_drawn_120 : decode cX11_drawn 120 = .ok (.iload 4, 2) := by decide +kernel
theorem dX11_drawn_122 : decode cX11_drawn 122 = .ok (.iload 8, 2) := by decide +kernel
theorem dX11_drawn_124 : decode cX11_drawn 124 = .ok (.iload 5, 2) := by decide +kernel
theorem dX11_drawn_126 : decode cX11_drawn 126 = .ok (.bipush 10, 2) := by decide +kernel
theorem dX11_drawn_128 : decode cX11_drawn 128 = .ok (.isub, 1) := by decide +kernel
theorem dX11_drawn_129 : decode cX11_drawn 129 = .ok (.invokevirtual 163, 3) := by decide +kernel
theorem dX11_drawn_132 : decode cX11_drawn 132 = .ok (.goto 4, 3) := by decide +kernel
theorem dX11_drawn_135 : decode cX11_drawn 135 = .ok (.iconst (-1), 1) := by decide +kernel
theorem dX11_drawn_136 : decode cX11_drawn 136 = .ok (.ireturn, 1) := by decide +kernel
theorem dX11_count_0 : decode cX11_count 0 = .ok (.aload_n 0, 1) := by decide +kernel
theorem dX11_count_1 : decode cX11_count 1 = .ok (.getfield 10, 3) := by decide +kernel
theorem dX11_count_4 : decode cX11_count 4 = .ok (.iload_n 1, 1) := by decide +kernel
theorem dX11_count_5 : decode cX11_count 5 = .ok (.invokevirtual 341, 3) := by decide +kernel
theorem dX11_count_8 : decode cX11_count 8 = .ok (.ifCond .eq 14, 3) := by decide +kernel
theorem dX11_count_11 : decode cX11_count 11 = .ok (.aload_n 0, 1) := by decide +kernel
theorem dX11_count_12 : decode cX11_count 12 = .ok (.getfield 10, 3) := by decide +kernel
theorem dX11_count_15 : decode cX11_count 15 = .ok (.iload_n 1, 1) := by decide +kernel
theorem dX11_count_16 : decode cX11_count 16 = .ok (.invokevirtual 344, 3) := by decide +kernel
theorem dX11_count_19 : decode cX11_count 19 = .ok (.goto 5, 3) := by decide +kernel
theorem dX11_count_22 : decode cX11_count 22 = .ok (.bipush (-2), 2) := by decide +kernel
theorem dX11_count_24 : decode cX11_count 24 = .ok (.ireturn, 1) := by decide +kernel
theorem dX11_image_0 : decode cX11_image 0 = .ok (.iload_n 1, 1) := by decide +kernel
theorem dX11_image_1 : decode cX11_image 1 = .ok (.ifCond .lt 12, 3) := by decide +kernel
theorem dX11_image_4 : decode cX11_image 4 = .ok (.iload_n 1, 1) := by decide +kernel
theorem dX11_image_5 : decode cX11_image 5 = .ok (.aload_n 0, 1) := by decide +kernel
theorem dX11_image_6 : decode cX11_image 6 = .ok (.getfield 16, 3) := by decide +kernel
theorem dX11_image_9 : decode cX11_image 9 = .ok (.arraylength, 1) := by decide +kernel
theorem dX11_image_10 : decode cX11_image 10 = .ok (.if_icmp .lt 5, 3) := by decide +kernel
theorem dX11_image_13 : decode cX11_image 13 = .ok (.iconst 0, 1) := by decide +kernel
theorem dX11_image_14 : decode cX11_image 14 = .ok (.ireturn, 1) := by decide +kernel
theorem dX11_image_15 : decode cX11_image 15 = .ok (.aload_n 0, 1) := by decide +kernel
theorem dX11_image_16 : decode cX11_image 16 = .ok (.getfield 16, 3) := by decide +kernel
theorem dX11_image_19 : decode cX11_image 19 = .ok (.iload_n 1, 1) := by decide +kernel
theorem dX11_image_20 : decode cX11_image 20 = .ok (.aaload, 1) := by decide +kernel
theorem dX11_image_21 : decode cX11_image 21 = .ok (.astore_n 2, 1) := by decide +kernel
theorem dX11_image_22 : decode cX11_image 22 = .ok (.aload_n 2, 1) := by decide +kernel
theorem dX11_image_23 : decode cX11_image 23 = .ok (.ifnonnull 18, 3) := by decide +kernel
theorem dX11_image_26 : decode cX11_image 26 = .ok (.new 7, 3) := by decide +kernel
theorem dX11_image_29 : decode cX11_image 29 = .ok (.dup, 1) := by decide +kernel
theorem dX11_image_30 : decode cX11_image 30 = .ok (.invokespecial 9, 3) := by decide +kernel
theorem dX11_image_33 : decode cX11_image 33 = .ok (.astore_n 2, 1) := by decide +kernel
theorem dX11_image_34 : decode cX11_image 34 = .ok (.aload_n 0, 1) := by decide +kernel
theorem dX11_image_35 : decode cX11_image 35 = .ok (.getfield 16, 3) := by decide +kernel
theorem dX11_image_38 : decode cX11_image 38 = .ok (.iload_n 1, 1) := by decide +kernel
theorem dX11_image_39 : decode cX11_image 39 = .ok (.aload_n 2, 1) := by decide +kernel
theorem dX11_image_40 : decode cX11_image 40 = .ok (.aastore, 1) := by decide +kernel
theorem dX11_image_41 : decode cX11_image 41 = .ok (.aload_n 2, 1) := by decide +kernel
theorem dX11_image_42 : decode cX11_image 42 = .ok (.aload_n 0, 1) := by decide +kernel
theorem dX11_image_43 : decode cX11_image 43 = .ok (.getfield 10, 3) := by decide +kernel
theorem dX11_image_46 : decode cX11_image 46 = .ok (.invokevirtual 347, 3) := by decide +kernel
theorem dX11_image_49 : decode cX11_image 49 = .ok (.iconst 1, 1) := by decide +kernel
theorem dX11_image_50 : decode cX11_image 50 = .ok (.ireturn, 1) := by decide +kernel
theorem dX11_again_0 : decode cX11_again 0 = .ok (.iload_n 1, 1) := by decide +kernel
theorem dX11_again_1 : decode cX11_again 1 = .ok (.ifCond .lt 12, 3) := by decide +kernel
theorem dX11_again_4 : decode cX11_again 4 = .ok (.iload_n 1, 1) := by decide +kernel
theorem dX11_again_5 : decode cX11_again 5 = .ok (.aload_n 0, 1) := by decide +kernel
theorem dX11_again_6 : decode cX11_again 6 = .ok (.getfield 16, 3) := by decide +kernel
theorem dX11_again_9 : decode cX11_again 9 = .ok (.arraylength, 1) := by decide +kernel
theorem dX11_again_10 : decode cX11_again 10 = .ok (.if_icmp .lt 5, 3) := by decide +kernel
theorem dX11_again_13 : decode cX11_again 13 = .ok (.iconst 0, 1) := by decide +kernel
theorem dX11_again_14 : decode cX11_again 14 = .ok (.ireturn, 1) := by decide +kernel
theorem dX11_again_15 : decode cX11_again 15 = .ok (.aload_n 0, 1) := by decide +kernel
theorem dX11_again_16 : decode cX11_again 16 = .ok (.getfield 16, 3) := by decide +kernel
theorem dX11_again_19 : decode cX11_again 19 = .ok (.iload_n 1, 1) := by decide +kernel
theorem dX11_again_20 : decode cX11_again 20 = .ok (.aaload, 1) := by decide +kernel
theorem dX11_again_21 : decode cX11_again 21 = .ok (.astore_n 2, 1) := by decide +kernel
theorem dX11_again_22 : decode cX11_again 22 = .ok (.aload_n 2, 1) := by decide +kernel
theorem dX11_again_23 : decode cX11_again 23 = .ok (.ifnonnull 5, 3) := by decide +kernel
theorem dX11_again_26 : decode cX11_again 26 = .ok (.iconst 0, 1) := by decide +kernel
theorem dX11_again_27 : decode cX11_again 27 = .ok (.ireturn, 1) := by decide +kernel
theorem dX11_again_28 : decode cX11_again 28 = .ok (.aload_n 0, 1) := by decide +kernel
theorem dX11_again_29 : decode cX11_again 29 = .ok (.getfield 10, 3) := by decide +kernel
theorem dX11_again_32 : decode cX11_again 32 = .ok (.aload_n 2, 1) := by decide +kernel
theorem dX11_again_33 : decode cX11_again 33 = .ok (.invokevirtual 347, 3) := by decide +kernel
theorem dX11_again_36 : decode cX11_again 36 = .ok (.iconst 1, 1) := by decide +kernel
theorem dX11_again_37 : decode cX11_again 37 = .ok (.ireturn, 1) := by decide +kernel
theorem dX12_init_0 : decode cX12_init 0 = .ok (.aload_n 0, 1) := by decide +kernel
theorem dX12_init_1 : decode cX12_init 1 = .ok (.invokespecial 1, 3) := by decide +kernel
theorem dX12_init_4 : decode cX12_init 4 = .ok (.aload_n 0, 1) := by decide +kernel
theorem dX12_init_5 : decode cX12_init 5 = .ok (.sipush 2400, 3) := by decide +kernel
theorem dX12_init_8 : decode cX12_init 8 = .ok (.newarray .byte, 2) := by decide +kernel
theorem dX12_init_10 : decode cX12_init 10 = .ok (.putfield 7, 3) := by decide +kernel
theorem dX12_init_13 : decode cX12_init 13 = .ok (.aload_n 0, 1) := by decide +kernel
theorem dX12_init_14 : decode cX12_init 14 = .ok (.iconst 4, 1) := by decide +kernel
theorem dX12_init_15 : decode cX12_init 15 = .ok (.newarray .int, 2) := by decide +kernel
theorem dX12_init_17 : decode cX12_init 17 = .ok (.putfield 13, 3) := by decide +kernel
theorem dX12_init_20 : decode cX12_init 20 = .ok (.aload_n 0, 1) := by decide +kernel
theorem dX12_init_21 : decode cX12_init 21 = .ok (.iconst 4, 1) := by decide +kernel
theorem dX12_init_22 : decode cX12_init 22 = .ok (.newarray .int, 2) := by decide +kernel
theorem dX12_init_24 : decode cX12_init 24 = .ok (.putfield 17, 3) := by decide +kernel
theorem dX12_init_27 : decode cX12_init 27 = .ok (.aload_n 0, 1) := by decide +kernel
theorem dX12_init_28 : decode cX12_init 28 = .ok (.iconst 4, 1) := by decide +kernel
theorem dX12_init_29 : decode cX12_init 29 = .ok (.newarray .int, 2) := by decide +kernel
theorem dX12_init_31 : decode cX12_init 31 = .ok (.putfield 20, 3) := by decide +kernel
theorem dX12_init_34 : decode cX12_init 34 = .ok (.aload_n 0, 1) := by decide +kernel
theorem dX12_init_35 : decode cX12_init 35 = .ok (.bipush 12, 2) := by decide +kernel
theorem dX12_init_37 : decode cX12_init 37 = .ok (.newarray .int, 2) := by decide +kernel
theorem dX12_init_39 : decode cX12_init 39 = .ok (.putfield 23, 3) := by decide +kernel
theorem dX12_init_42 : decode cX12_init 42 = .ok (.aload_n 0, 1) := by decide +kernel
theorem dX12_init_43 : decode cX12_init 43 = .ok (.sipush 12208, 3) := by decide +kernel
theorem dX12_init_46 : decode cX12_init 46 = .ok (.newarray .int, 2) := by decide +kernel
theorem dX12_init_48 : decode cX12_init 48 = .ok (.putfield 26, 3) := by decide +kernel
theorem dX12_init_51 : decode cX12_init 51 = .ok (.aload_n 0, 1) := by decide +kernel
theorem dX12_init_52 : decode cX12_init 52 = .ok (.sipush 456, 3) := by decide +kernel
theorem dX12_init_55 : decode cX12_init 55 = .ok (.newarray .int, 2) := by decide +kernel
theorem dX12_init_57 : decode cX12_init 57 = .ok (.putfield 29, 3) := by decide +kernel
theorem dX12_init_60 : decode cX12_init 60 = .ok (.aload_n 0, 1) := by decide +kernel
theorem dX12_init_61 : decode cX12_init 61 = .ok (.sipush 200, 3) := by decide +kernel
theorem dX12_init_64 : decode cX12_init 64 = .ok (.newarray .int, 2) := by decide +kernel
theorem dX12_init_66 : decode cX12_init 66 = .ok (.putfield 32, 3) := by decide +kernel
theorem dX12_init_69 : decode cX12_init 69 = .ok (.aload_n 0, 1) := by decide +kernel
theorem dX12_init_70 : decode cX12_init 70 = .ok (.sipush 1526, 3) := by decide +kernel
theorem dX12_init_73 : decode cX12_init 73 = .ok (.newarray .int, 2) := by decide +kernel
theorem dX12_init_75 : decode cX12_init 75 = .ok (.putfield 35, 3) := by decide +kernel
theorem dX12_init_78 : decode cX12_init 78 = .ok (.aload_n 0, 1) := by decide +kernel
theorem dX12_init_79 : decode cX12_init 79 = .ok (.iconst 4, 1) := by decide +kernel
theorem dX12_init_80 : decode cX12_init 80 = .ok (.newarray .int, 2) := by decide +kernel
theorem dX12_init_82 : decode cX12_init 82 = .ok (.putfield 38, 3) := by decide +kernel
theorem dX12_init_85 : decode cX12_init 85 = .ok (.aload_n 0, 1) := by decide +kernel
theorem dX12_init_86 : decode cX12_init 86 = .ok (.sipush 300, 3) := by decide +kernel
theorem dX12_init_89 : decode cX12_init 89 = .ok (.newarray .int, 2) := by decide +kernel
theorem dX12_init_91 : decode cX12_init 91 = .ok (.putfield 41, 3) := by decide +kernel
theorem dX12_init_94 : decode cX12_init 94 = .ok (.aload_n 0, 1) := by decide +kernel
theorem dX12_init_95 : decode cX12_init 95 = .ok (.sipush 320, 3) := by decide +kernel
theorem dX12_init_98 : decode cX12_init 98 = .ok (.newarray .int, 2) := by decide +kernel
theorem dX12_init_100 : decode cX12_init 100 = .ok (.putfield 44, 3) := by decide +kernel
theorem dX12_init_103 : decode cX12_init 103 = .ok (.aload_n 0, 1) := by decide +kernel
theorem dX12_init_104 : decode cX12_init 104 = .ok (.sipush 441, 3) := by decide +kernel
theorem dX12_init_107 : decode cX12_init 107 = .ok (.newarray .int, 2) := by decide +kernel
theorem dX12_init_109 : decode cX12_init 109 = .ok (.putfield 47, 3) := by decide +kernel
theorem dX12_init_112 : decode cX12_init 112 = .ok (.aload_n 0, 1) := by decide +kernel
theorem dX12_init_113 : decode cX12_init 113 = .ok (.bipush 32, 2) := by decide +kernel
theorem dX12_init_115 : decode cX12_init 115 = .ok (.newarray .int, 2) := by decide +kernel
theorem dX12_init_117 : decode cX12_init 117 = .ok (.putfield 50, 3) := by decide +kernel
theorem dX12_init_120 : decode cX12_init 120 = .ok (.aload_n 0, 1) := by decide +kernel
theorem dX12_init_121 : decode cX12_init 121 = .ok (.bipush 40, 2) := by decide +kernel
theorem dX12_init_123 : decode cX12_init 123 = .ok (.newarray .int, 2) := by decide +kernel
theorem dX12_init_125 : decode cX12_init 125 = .ok (.putfield 53, 3) := by decide +kernel
theorem dX12_init_128 : decode cX12_init 128 = .ok (.aload_n 0, 1) := by decide +kernel
theorem dX12_init_129 : decode cX12_init 129 = .ok (.iconst 3, 1) := by decide +kernel
theorem dX12_init_130 : decode cX12_init 130 = .ok (.newarray .boolean, 2) := by decide +kernel
theorem dX12_init_132 : decode cX12_init 132 = .ok (.putfield 56, 3) := by decide +kernel
theorem dX12_init_135 : decode cX12_init 135 = .ok (.aload_n 0, 1) := by decide +kernel
theorem dX12_init_136 : decode cX12_init 136 = .ok (.getfield 20, 3) := by decide +kernel
theorem dX12_init_139 : decode cX12_init 139 = .ok (.iconst 0, 1) := by decide +kernel
theorem dX12_init_140 : decode cX12_init 140 = .ok (.iconst (-1), 1) := by decide +kernel
theorem dX12_init_141 : decode cX12_init 141 = .ok (.iastore, 1) := by decide +kernel
theorem dX12_init_142 : decode cX12_init 142 = .ok (.return_, 1) := by decide +kernel
theorem dX12_in_0 : decode cX12_in 0 = .ok (.iload_n 0, 1) := by decide +kernel
theorem dX12_in_1 : decode cX12_in 1 = .ok (.iload_n 1, 1) := by decide +kernel
theorem dX12_in_2 : decode cX12_in 2 = .ok (.if_icmp .lt 12, 3) := by decide +kernel
theorem dX12_in_5 : decode cX12_in 5 = .ok (.iload_n 0, 1) := by decide +kernel
theorem dX12_in_6 : decode cX12_in 6 = .ok (.iload_n 2, 1) := by decide +kernel
theorem dX12_in_7 : decode cX12_in 7 = .ok (.if_icmp .gt 7, 3) := by decide +kernel
theorem dX12_in_10 : decode cX12_in 10 = .ok (.iconst 1, 1) := by decide +kernel
theorem dX12_in_11 : decode cX12_in 11 = .ok (.goto 4, 3) := by decide +kernel
theorem dX12_in_14 : decode cX12_in 14 = .ok (.iconst 0, 1) := by decide +kernel
theorem dX12_in_15 : decode cX12_in 15 = .ok (.ireturn, 1) := by decide +kernel
theorem dX12_has_0 : decode cX12_has 0 = .ok (.iload_n 0, 1) := by decide +kernel
theorem dX12_has_1 : decode cX12_has 1 = .ok (.iload_n 1, 1) := by decide +kernel
theorem dX12_has_2 : decode cX12_has 2 = .ok (.ishr, 1) := by decide +kernel
theorem dX12_has_3 : decode cX12_has 3 = .ok (.iconst 1, 1) := by decide +kernel
theorem dX12_has_4 : decode cX12_has 4 = .ok (.iand, 1) := by decide +kernel
theorem dX12_has_5 : decode cX12_has 5 = .ok (.iconst 1, 1) := by decide +kernel
theorem dX12_has_6 : decode cX12_has 6 = .ok (.if_icmp .ne 7, 3) := by decide +kernel
theorem dX12_has_9 : decode cX12_has 9 = .ok (.iconst 1, 1) := by decide +kernel
theorem dX12_has_10 : decode cX12_has 10 = .ok (.goto 4, 3) := by decide +kernel
theorem dX12_has_13 : decode cX12_has 13 = .ok (.iconst 0, 1) := by decide +kernel
theorem dX12_has_14 : decode cX12_has 14 = .ok (.ireturn, 1) := by decide +kernel
theorem dX12_greater_0 : decode cX12_greater 0 = .ok (.iload_n 0, 1) := by decide +kernel
theorem dX12_greater_1 : decode cX12_greater 1 = .ok (.iload_n 1, 1) := by decide +kernel
theorem dX12_greater_2 : decode cX12_greater 2 = .ok (.if_icmp .le 7, 3) := by decide +kernel
theorem dX12_greater_5 : decode cX12_greater 5 = .ok (.iload_n 0, 1) := by decide +kernel
theorem dX12_greater_6 : decode cX12_greater 6 = .ok (.goto 4, 3) := by decide +kernel
theorem dX12_greater_9 : decode cX12_greater 9 = .ok (.iload_n 1, 1) := by decide +kernel
theorem dX12_greater_10 : decode cX12_greater 10 = .ok (.ireturn, 1) := by decide +kernel
theorem dX12_lesser_0 : decode cX12_lesser 0 = .ok (.iload_n 0, 1) := by decide +kernel
theorem dX12_lesser_1 : decode cX12_lesser 1 = .ok (.iload_n 1, 1) := by decide +kernel
theorem dX12_lesser_2 : decode cX12_lesser 2 = .ok (.if_icmp .ge 7, 3) := by decide +kernel
theorem dX12_lesser_5 : decode cX12_lesser 5 = .ok (.iload_n 0, 1) := by decide +kernel
theorem dX12_lesser_6 : decode cX12_lesser 6 = .ok (.goto 4, 3) := by decide +kernel
theorem dX12_lesser_9 : decode cX12_lesser 9 = .ok (.iload_n 1, 1) := by decide +kernel
theorem dX12_lesser_10 : decode cX12_lesser 10 = .ok (.ireturn, 1) := by decide +kernel
theorem dX12_ones_0 : decode cX12_ones 0 = .ok (.iconst 0, 1) := by decide +kernel
theorem dX12_ones_1 : decode cX12_ones 1 = .ok (.istore_n 1, 1) := by decide +kernel
theorem dX12_ones_2 : decode cX12_ones 2 = .ok (.iconst 0, 1) := by decide +kernel
theorem dX12_ones_3 : decode cX12_ones 3 = .ok (.istore_n 2, 1) := by decide +kernel
theorem dX12_ones_4 : decode cX12_ones 4 = .ok (.iload_n 2, 1) := by decide +kernel
theorem dX12_ones_5 : decode cX12_ones 5 = .ok (.bipush 10, 2) := by decide +kernel
theorem dX12_ones_7 : decode cX12_ones 7 = .ok (.if_icmp .ge 25, 3) := by decide +kernel
theorem dX12_ones_10 : decode cX12_ones 10 = .ok (.iload_n 1, 1) := by decide +kernel
theorem dX12_ones_11 : decode cX12_ones 11 = .ok (.iload_n 0, 1) := by decide +kernel
theorem dX12_ones_12 : decode cX12_ones 12 = .ok (.iload_n 2, 1) := by decide +kernel
theorem dX12_ones_13 : decode cX12_ones 13 = .ok (.invokestatic 64, 3) := by decide +kernel
theorem dX12_ones_16 : decode cX12_ones 16 = .ok (.ifCond .eq 7, 3) := by decide +kernel
theorem dX12_ones_19 : decode cX12_ones 19 = .ok (.iconst 1, 1) := by decide +kernel
theorem dX12_ones_20 : decode cX12_ones 20 = .ok (.goto 4, 3) := by decide +kernel
theorem dX12_ones_23 : decode cX12_ones 23 = .ok (.iconst 0, 1) := by decide +kernel
theorem dX12_ones_24 : decode cX12_ones 24 = .ok (.iadd, 1) := by decide +kernel
theorem dX12_ones_25 : decode cX12_ones 25 = .ok (.istore_n 1, 1) := by decide +kernel
theorem dX12_ones_26 : decode cX12_ones 26 = .ok (.iinc 2 1, 3) := by decide +kernel
theorem dX12_ones_29 : decode cX12_ones 29 = .ok (.goto (-25), 3) := by decide +kernel
theorem dX12_ones_32 : decode cX12_ones 32 = .ok (.iload_n 1, 1) := by decide +kernel
theorem dX12_ones_33 : decode cX12_ones 33 = .ok (.ireturn, 1) := by decide +kernel
theorem dX12_copyRow_0 : decode cX12_copyRow 0 = .ok (.iconst 0, 1) := by decide +kernel
theorem dX12_copyRow_1 : decode cX12_copyRow 1 = .ok (.istore 4, 2) := by decide +kernel
theorem dX12_copyRow_3 : decode cX12_copyRow 3 = .ok (.iload 4, 2) := by decide +kernel
theorem dX12_copyRow_5 : decode cX12_copyRow 5 = .ok (.iload_n 1, 1) := by decide +kernel
theorem dX12_copyRow_6 : decode cX12_copyRow 6 = .ok (.if_icmp .ge 25, 3) := by decide +kernel
theorem dX12_copyRow_9 : decode cX12_copyRow 9 = .ok (.aload_n 0, 1) := by decide +kernel
theorem dX12_copyRow_10 : decode cX12_copyRow 10 = .ok (.iload_n 1, 1) := by decide +kernel
theorem dX12_copyRow_11 : decode cX12_copyRow 11 = .ok (.iload_n 3, 1) := by decide +kernel
theorem dX12_copyRow_12 : decode cX12_copyRow 12 = .ok (.imul, 1) := by decide +kernel
theorem dX12_copyRow_13 : decode cX12_copyRow 13 = .ok (.iload 4, 2) := by decide +kernel
theorem dX12_copyRow_15 : decode cX12_copyRow 15 = .ok (.iadd, 1) := by decide +kernel
theorem dX12_copyRow_16 : decode cX12_copyRow 16 = .ok (.aload_n 0, 1) := by decide +kernel
theorem dX12_copyRow_17 : decode cX12_copyRow 17 = .ok (.iload_n 1, 1) := by decide +kernel
theorem dX12_copyRow_18 : decode cX12_copyRow 18 = .ok (.iload_n 2, 1) := by decide +kernel
theorem dX12_copyRow_19 : decode cX12_copyRow 19 = .ok (.imul, 1) := by decide +kernel
theorem dX12_copyRow_20 : decode cX12_copyRow 20 = .ok (.iload 4, 2) := by decide +kernel
theorem dX12_copyRow_22 : decode cX12_copyRow 22 = .ok (.iadd, 1) := by decide +kernel
theorem dX12_copyRow_23 : decode cX12_copyRow 23 = .ok (.iaload, 1) := by decide +kernel
theorem dX12_copyRow_24 : decode cX12_copyRow 24 = .ok (.iastore, 1) := by decide +kernel
theorem dX12_copyRow_25 : decode cX12_copyRow 25 = .ok (.iinc 4 1, 3) := by decide +kernel
theorem dX12_copyRow_28 : decode cX12_copyRow 28 = .ok (.goto (-25), 3) := by decide +kernel
theorem dX12_copyRow_31 : decode cX12_copyRow 31 = .ok (.return_, 1) := by decide +kernel
theorem dX12_copyAll_0 : decode cX12_copyAll 0 = .ok (.iconst 0, 1) := by decide +kernel
theorem dX12_copyAll_1 : decode cX12_copyAll 1 = .ok (.istore_n 3, 1) := by decide +kernel
theorem dX12_copyAll_2 : decode cX12_copyAll 2 = .ok (.iload_n 3, 1) := by decide +kernel
theorem dX12_copyAll_3 : decode cX12_copyAll 3 = .ok (.sipush 600, 3) := by decide +kernel
theorem dX12_copyAll_6 : decode cX12_copyAll 6 = .ok (.if_icmp .ge 33, 3) := by decide +kernel
theorem dX12_copyAll_9 : decode cX12_copyAll 9 = .ok (.aload_n 0, 1) := by decide +kernel
theorem dX12_copyAll_10 : decode cX12_copyAll 10 = .ok (.getfield 7, 3) := by decide +kernel
theorem dX12_copyAll_13 : decode cX12_copyAll 13 = .ok (.sipush 600, 3) := by decide +kernel
theorem dX12_copyAll_16 : decode cX12_copyAll 16 = .ok (.iload_n 2, 1) := by decide +kernel
theorem dX12_copyAll_17 : decode cX12_copyAll 17 = .ok (.imul, 1) := by decide +kernel
theorem dX12_copyAll_18 : decode cX12_copyAll 18 = .ok (.iload_n 3, 1) := by decide +kernel
theorem dX12_copyAll_19 : decode cX12_copyAll 19 = .ok (.iadd, 1) := by decide +kernel
theorem dX12_copyAll_20 : decode cX12_copyAll 20 = .ok (.aload_n 0, 1) := by decide +kernel
theorem dX12_copyAll_21 : decode cX12_copyAll 21 = .ok (.getfield 7, 3) := by decide +kernel
theorem dX12_copyAll_24 : decode cX12_copyAll 24 = .ok (.sipush 600, 3) := by decide +kernel
theorem dX12_copyAll_27 : decode cX12_copyAll 27 = .ok (.iload_n 1, 1) := by decide +kernel
theorem dX12_copyAll_28 : decode cX12_copyAll 28 = .ok (.imul, 1) := by decide +kernel
theorem dX12_copyAll_29 : decode cX12_copyAll 29 = .ok (.iload_n 3, 1) := by decide +kernel
theorem dX12_copyAll_30 : decode cX12_copyAll 30 = .ok (.iadd, 1) := by decide +kernel
theorem dX12_copyAll_31 : decode cX12_copyAll 31 = .ok (.baload, 1) := by decide +kernel
theorem dX12_copyAll_32 : decode cX12_copyAll 32 = .ok (.bastore, 1) := by decide +kernel
theorem dX12_copyAll_33 : decode cX12_copyAll 33 = .ok (.iinc 3 1, 3) := by decide +kernel
theorem dX12_copyAll_36 : decode cX12_copyAll 36 = .ok (.goto (-34), 3) := by decide +kernel
theorem dX12_copyAll_39 : decode cX12_copyAll 39 = .ok (.aload_n 0, 1) := by decide +kernel
theorem dX12_copyAll_40 : decode cX12_copyAll 40 = .ok (.getfield 13, 3) := by decide +kernel
theorem dX12_copyAll_43 : decode cX12_copyAll 43 = .ok (.iconst 1, 1) := by decide +kernel
theorem dX12_copyAll_44 : decode cX12_copyAll 44 = .ok (.iload_n 1, 1) := by decide +kernel
theorem dX12_copyAll_45 : decode cX12_copyAll 45 = .ok (.iload_n 2, 1) := by decide +kernel
theorem dX12_copyAll_46 : decode cX12_copyAll 46 = .ok (.invokestatic 68, 3) := by decide +kernel
theorem dX12_copyAll_49 : decode cX12_copyAll 49 = .ok (.aload_n 0, 1) := by decide +kernel
theorem dX12_copyAll_50 : decode cX12_copyAll 50 = .ok (.getfield 17, 3) := by decide +kernel
theorem dX12_copyAll_53 : decode cX12_copyAll 53 = .ok (.iconst 1, 1) := by decide +kernel
theorem dX12_copyAll_54 : decode cX12_copyAll 54 = .ok (.iload_n 1, 1) := by decide +kernel
theorem dX12_copyAll_55 : decode cX12_copyAll 55 = .ok (.iload_n 2, 1) := by decide +kernel
theorem dX12_copyAll_56 : decode cX12_copyAll 56 = .ok (.invokestatic 68, 3) := by decide +kernel
theorem dX12_copyAll_59 : decode cX12_copyAll 59 = .ok (.aload_n 0, 1) := by decide +kernel
theorem dX12_copyAll_60 : decode cX12_copyAll 60 = .ok (.getfield 20, 3) := by decide +kernel
theorem dX12_copyAll_63 : decode cX12_copyAll 63 = .ok (.iconst 1, 1) := by decide +kernel
theorem dX12_copyAll_64 : decode cX12_copyAll 64 = .ok (.iload_n 1, 1) := by decide +kernel
theorem dX12_copyAll_65 : decode cX12_copyAll 65 = .ok (.iload_n 2, 1) := by decide +kernel
theorem dX12_copyAll_66 : decode cX12_copyAll 66 = .ok (.invokestatic 68, 3) := by decide +kernel
theorem dX12_copyAll_69 : decode cX12_copyAll 69 = .ok (.aload_n 0, 1) := by decide +kernel
theorem dX12_copyAll_70 : decode cX12_copyAll 70 = .ok (.getfield 23, 3) := by decide +kernel
theorem dX12_copyAll_73 : decode cX12_copyAll 73 = .ok (.iconst 3, 1) := by decide +kernel
theorem dX12_copyAll_74 : decode cX12_copyAll 74 = .ok (.iload_n 1, 1) := by decide +kernel
theorem dX12_copyAll_75 : decode cX12_copyAll 75 = .ok (.iload_n 2, 1) := by decide +kernel
theorem dX12_copyAll_76 : decode cX12_copyAll 76 = .ok (.invokestatic 68, 3) := by decide +kernel
theorem dX12_copyAll_79 : decode cX12_copyAll 79 = .ok (.aload_n 0, 1) := by decide +kernel
theorem dX12_copyAll_80 : decode cX12_copyAll 80 = .ok (.getfield 26, 3) := by decide +kernel
theorem dX12_copyAll_83 : decode cX12_copyAll 83 = .ok (.sipush 3052, 3) := by decide +kernel
theorem dX12_copyAll_86 : decode cX12_copyAll 86 = .ok (.iload_n 1, 1) := by decide +kernel
theorem dX12_copyAll_87 : decode cX12_copyAll 87 = .ok (.iload_n 2, 1) := by decide +kernel
theorem dX12_copyAll_88 : decode cX12_copyAll 88 = .ok (.invokestatic 68, 3) := by decide +kernel
theorem dX12_copyAll_91 : decode cX12_copyAll 91 = .ok (.aload_n 0, 1) := by decide +kernel
theorem dX12_copyAll_92 : decode cX12_copyAll 92 = .ok (.getfield 29, 3) := by decide +kernel
theorem dX12_copyAll_95 : decode cX12_copyAll 95 = .ok (.bipush 114, 2) := by decide +kernel
theorem dX12_copyAll_97 : decode cX12_copyAll 97 = .ok (.iload_n 1, 1) := by decide +kernel
theorem dX12_copyAll_98 : decode cX12_copyAll 98 = .ok (.iload_n 2, 1) := by decide +kernel
theorem dX12_copyAll_99 : decode cX12_copyAll 99 = .ok (.invokestatic 68, 3) := by decide +kernel
theorem dX12_copyAll_102 : decode cX12_copyAll 102 = .ok (.aload_n 0, 1) := by decide +kernel
theorem dX12_copyAll_103 : decode cX12_copyAll 103 = .ok (.getfield 32, 3) := by decide +kernel
theorem dX12_copyAll_106 : decode cX12_copyAll 106 = .ok (.bipush 50, 2) := by decide +kernel
theorem dX12_copyAll_108 : decode cX12_copyAll 108 = .ok (.iload_n 1, 1) := by decide +kernel
theorem dX12_copyAll_109 : decode cX12_copyAll 109 = .ok (.iload_n 2, 1) := by decide +kernel
theorem dX12_copyAll_110 : decode cX12_copyAll 110 = .ok (.invokestatic 68, 3) := by decide +kernel
theorem dX12_copyAll_113 : decode cX12_copyAll 113 = .ok (.return_, 1) := by decide +kernel
theorem dX12_is_0 : decode cX12_is 0 = .ok (.iload_n 2, 1) := by decide +kernel
theorem dX12_is_1 : decode cX12_is 1 = .ok (.iconst 0, 1) := by decide +kernel
theorem dX12_is_2 : decode cX12_is 2 = .ok (.aload_n 0, 1) := by decide +kernel
theorem dX12_is_3 : decode cX12_is 3 = .ok (.getfield 23, 3) := by decide +kernel
theorem dX12_is_6 : decode cX12_is 6 = .ok (.iload_n 1, 1) := by decide +kernel
theorem dX12_is_7 : decode cX12_is 7 = .ok (.iaload, 1) := by decide +kernel
theorem dX12_is_8 : decode cX12_is 8 = .ok (.iconst 1, 1) := by decide +kernel
theorem dX12_is_9 : decode cX12_is 9 = .ok (.isub, 1) := by decide +kernel
theorem dX12_is_10 : decode cX12_is 10 = .ok (.invokestatic 72, 3) := by decide +kernel
theorem dX12_is_13 : decode cX12_is 13 = .ok (.ireturn, 1) := by decide +kernel
theorem dX12_feed_0 : decode cX12_feed 0 = .ok (.aload_n 0, 1) := by decide +kernel
theorem dX12_feed_1 : decode cX12_feed 1 = .ok (.iconst 0, 1) := by decide +kernel
theorem dX12_feed_2 : decode cX12_feed 2 = .ok (.putfield 60, 3) := by decide +kernel
theorem dX12_feed_5 : decode cX12_feed 5 = .ok (.aload_n 0, 1) := by decide +kernel
theorem dX12_feed_6 : decode cX12_feed 6 = .ok (.getfield 13, 3) := by decide +kernel
theorem dX12_feed_9 : decode cX12_feed 9 = .ok (.iconst 0, 1) := by decide +kernel
theorem dX12_feed_10 : decode cX12_feed 10 = .ok (.iaload, 1) := by decide +kernel
theorem dX12_feed_11 : decode cX12_feed 11 = .ok (.bipush 20, 2) := by decide +kernel
theorem dX12_feed_13 : decode cX12_feed 13 = .ok (.iadd, 1) := by decide +kernel
theorem dX12_feed_14 : decode cX12_feed 14 = .ok (.sipush 600, 3) := by decide +kernel
theorem dX12_feed_17 : decode cX12_feed 17 = .ok (.if_icmp .le 5, 3) := by decide +kernel
theorem dX12_feed_20 : decode cX12_feed 20 = .ok (.iconst (-1), 1) := by decide +kernel
theorem dX12_feed_21 : decode cX12_feed 21 = .ok (.ireturn, 1) := by decide +kernel
theorem dX12_feed_22 : decode cX12_feed 22 = .ok (.aload_n 0, 1) := by decide +kernel
theorem dX12_feed_23 : decode cX12_feed 23 = .ok (.iload_n 1, 1) := by decide +kernel
theorem dX12_feed_24 : decode cX12_feed 24 = .ok (.invokevirtual 76, 3) := by decide +kernel
theorem dX12_feed_27 : decode cX12_feed 27 = .ok (.aload_n 0, 1) := by decide +kernel
theorem dX12_feed_28 : decode cX12_feed 28 = .ok (.iload_n 2, 1) := by decide +kernel
theorem dX12_feed_29 : decode cX12_feed 29 = .ok (.invokevirtual 76, 3) := by decide +kernel
theorem dX12_feed_32 : decode cX12_feed 32 = .ok (.aload_n 0, 1) := by decide +kernel
theorem dX12_feed_33 : decode cX12_feed 33 = .ok (.iload_n 3, 1) := by decide +kernel
theorem dX12_feed_34 : decode cX12_feed 34 = .ok (.invokevirtual 76, 3) := by decide +kernel
theorem dX12_feed_37 : decode cX12_feed 37 = .ok (.aload_n 0, 1) := by decide +kernel
theorem dX12_feed_38 : decode cX12_feed 38 = .ok (.iload 4, 2) := by decide +kernel
theorem dX12_feed_40 : decode cX12_feed 40 = .ok (.invokevirtual 76, 3) := by decide +kernel
theorem dX12_feed_43 : decode cX12_feed 43 = .ok (.aload_n 0, 1) := by decide +kernel
theorem dX12_feed_44 : decode cX12_feed 44 = .ok (.iload 5, 2) := by decide +kernel
theorem dX12_feed_46 : decode cX12_feed 46 = .ok (.invokevirtual 76, 3) := by decide +kernel
theorem dX12_feed_49 : decode cX12_feed 49 = .ok (.aload_n 0, 1) := by decide +kernel
theorem dX12_feed_50 : decode cX12_feed 50 = .ok (.getfield 13, 3) := by decide +kernel
theorem dX12_feed_53 : decode cX12_feed 53 = .ok (.iconst 0, 1) := by decide +kernel
theorem dX12_feed_54 : decode cX12_feed 54 = .ok (.iaload, 1) := by decide +kernel
theorem dX12_feed_55 : decode cX12_feed 55 = .ok (.ireturn, 1) := by decide +kernel
theorem dX12_four_0 : decode cX12_four 0 = .ok (.bipush 24, 2) := by decide +kernel
theorem dX12_four_2 : decode cX12_four 2 = .ok (.istore_n 2, 1) := by decide +kernel
theorem dX12_four_3 : decode cX12_four 3 = .ok (.iload_n 2, 1) := by decide +kernel
theorem dX12_four_4 : decode cX12_four 4 = .ok (.ifCond .lt 34, 3) := by decide +kernel
theorem dX12_four_7 : decode cX12_four 7 = .ok (.aload_n 0, 1) := by decide +kernel
theorem dX12_four_8 : decode cX12_four 8 = .ok (.getfield 7, 3) := by decide +kernel
theorem dX12_four_11 : decode cX12_four 11 = .ok (.aload_n 0, 1) := by decide +kernel
theorem dX12_four_12 : decode cX12_four 12 = .ok (.getfield 13, 3) := by decide +kernel
theorem dX12_four_15 : decode cX12_four 15 = .ok (.iconst 0, 1) := by decide +kernel
theorem dX12_four_16 : decode cX12_four 16 = .ok (.iaload, 1) := by decide +kernel
theorem dX12_four_17 : decode cX12_four 17 = .ok (.iload_n 1, 1) := by decide +kernel
theorem dX12_four_18 : decode cX12_four 18 = .ok (.iload_n 2, 1) := by decide +kernel
theorem dX12_four_19 : decode cX12_four 19 = .ok (.ishr, 1) := by decide +kernel
theorem dX12_four_20 : decode cX12_four 20 = .ok (.i2b, 1) := by decide +kernel
theorem dX12_four_21 : decode cX12_four 21 = .ok (.bastore, 1) := by decide +kernel
theorem dX12_four_22 : decode cX12_four 22 = .ok (.aload_n 0, 1) := by decide +kernel
theorem dX12_four_23 : decode cX12_four 23 = .ok (.getfield 13, 3) := by decide +kernel
theorem dX12_four_26 : decode cX12_four 26 = .ok (.iconst 0, 1) := by decide +kernel
theorem dX12_four_27 : decode cX12_four 27 = .ok (.dup2, 1) := by decide +kernel
theorem dX12_four_28 : decode cX12_four 28 = .ok (.iaload, 1) := by decide +kernel
theorem dX12_four_29 : decode cX12_four 29 = .ok (.iconst 1, 1) := by decide +kernel
theorem dX12_four_30 : decode cX12_four 30 = .ok (.iadd, 1) := by decide +kernel
theorem dX12_four_31 : decode cX12_four 31 = .ok (.iastore, 1) := by decide +kernel
theorem dX12_four_32 : decode cX12_four 32 = .ok (.iinc 2 (-8), 3) := by decide +kernel
theorem dX12_four_35 : decode cX12_four 35 = .ok (.goto (-32), 3) := by decide +kernel
theorem dX12_four_38 : decode cX12_four 38 = .ok (.return_, 1) := by decide +kernel
theorem dX12_end_0 : decode cX12_end 0 = .ok (.aload_n 0, 1) := by decide +kernel
theorem dX12_end_1 : decode cX12_end 1 = .ok (.iconst 0, 1) := by decide +kernel
theorem dX12_end_2 : decode cX12_end 2 = .ok (.putfield 60, 3) := by decide +kernel
theorem dX12_end_5 : decode cX12_end 5 = .ok (.iload_n 1, 1) := by decide +kernel
theorem dX12_end_6 : decode cX12_end 6 = .ok (.iconst 0, 1) := by decide +kernel
theorem dX12_end_7 : decode cX12_end 7 = .ok (.aload_n 0, 1) := by decide +kernel
theorem dX12_end_8 : decode cX12_end 8 = .ok (.getfield 13, 3) := by decide +kernel
theorem dX12_end_11 : decode cX12_end 11 = .ok (.iconst 0, 1) := by decide +kernel
theorem dX12_end_12 : decode cX12_end 12 = .ok (.iaload, 1) := by decide +kernel
theorem dX12_end_13 : decode cX12_end 13 = .ok (.invokestatic 72, 3) := by decide +kernel
theorem dX12_end_16 : decode cX12_end 16 = .ok (.ifCond .ne 5, 3) := by decide +kernel
theorem dX12_end_19 : decode cX12_end 19 = .ok (.iconst (-1), 1) := by decide +kernel
theorem dX12_end_20 : decode cX12_end 20 = .ok (.ireturn, 1) := by decide +kernel
theorem dX12_end_21 : decode cX12_end 21 = .ok (.aload_n 0, 1) := by decide +kernel
theorem dX12_end_22 : decode cX12_end 22 = .ok (.getfield 13, 3) := by decide +kernel
theorem dX12_end_25 : decode cX12_end 25 = .ok (.iconst 0, 1) := by decide +kernel
theorem dX12_end_26 : decode cX12_end 26 = .ok (.iload_n 1, 1) := by decide +kernel
theorem dX12_end_27 : decode cX12_end 27 = .ok (.iastore, 1) := by decide +kernel
theorem dX12_end_28 : decode cX12_end 28 = .ok (.iload_n 1, 1) := by decide +kernel
theorem dX12_end_29 : decode cX12_end 29 = .ok (.ireturn, 1) := by decide +kernel
theorem dX12_see_0 : decode cX12_see 0 = .ok (.aload_n 0, 1) := by decide +kernel
theorem dX12_see_1 : decode cX12_see 1 = .ok (.getfield 80, 3) := by decide +kernel
theorem dX12_see_4 : decode cX12_see 4 = .ok (.aload_n 0, 1) := by decide +kernel
theorem dX12_see_5 : decode cX12_see 5 = .ok (.getfield 83, 3) := by decide +kernel
theorem dX12_see_8 : decode cX12_see 8 = .ok (.if_icmp .ge 19, 3) := by decide +kernel
theorem dX12_see_11 : decode cX12_see 11 = .ok (.aload_n 0, 1) := by decide +kernel
theorem dX12_see_12 : decode cX12_see 12 = .ok (.getfield 7, 3) := by decide +kernel
theorem dX12_see_15 : decode cX12_see 15 = .ok (.aload_n 0, 1) := by decide +kernel
theorem dX12_see_16 : decode cX12_see 16 = .ok (.getfield 80, 3) := by decide +kernel
theorem dX12_see_19 : decode cX12_see 19 = .ok (.baload, 1) := by decide +kernel
theorem dX12_see_20 : decode cX12_see 20 = .ok (.sipush 255, 3) := by decide +kernel
theorem dX12_see_23 : decode cX12_see 23 = .ok (.iand, 1) := by decide +kernel
theorem dX12_see_24 : decode cX12_see 24 = .ok (.goto 4, 3) := by decide +kernel
theorem dX12_see_27 : decode cX12_see 27 = .ok (.iconst (-1), 1) := by decide +kernel
theorem dX12_see_28 : decode cX12_see 28 = .ok (.ireturn, 1) := by decide +kernel
theorem dX12_token_0 : decode cX12_token 0 = .ok (.aload_n 0, 1) := by decide +kernel
theorem dX12_token_1 : decode cX12_token 1 = .ok (.invokevirtual 86, 3) := by decide +kernel
theorem dX12_token_4 : decode cX12_token 4 = .ok (.bipush 10, 2) := by decide +kernel
theorem dX12_token_6 : decode cX12_token 6 = .ok (.if_icmp .eq 12, 3) := by decide +kernel
theorem dX12_token_9 : decode cX12_token 9 = .ok (.aload_n 0, 1) := by decide +kernel
theorem dX12_token_10 : decode cX12_token 10 = .ok (.invokevirtual 86, 3) := by decide +kernel
theorem dX12_token_13 : decode cX12_token 13 = .ok (.bipush 32, 2) := by decide +kernel
theorem dX12_token_15 : decode cX12_token 15 = .ok (.if_icmp .ne 16, 3) := by decide +kernel
theorem dX12_token_18 : decode cX12_token 18 = .ok (.aload_n 0, 1) := by decide +kernel
theorem dX12_token_19 : decode cX12_token 19 = .ok (.dup, 1) := by decide +kernel
theorem dX12_token_20 : decode cX12_token 20 = .ok (.getfield 80, 3) := by decide +kernel
theorem dX12_token_23 : decode cX12_token 23 = .ok (.iconst 1, 1) := by decide +kernel
theorem dX12_token_24 : decode cX12_token 24 = .ok (.iadd, 1) := by decide +kernel
theorem dX12_token_25 : decode cX12_token 25 = .ok (.putfield 80, 3) := by decide +kernel
theorem dX12_token_28 : decode cX12_token 28 = .ok (.goto (-28), 3) := by decide +kernel
theorem dX12_token_31 : decode cX12_token 31 = .ok (.aload_n 0, 1) := by decide +kernel
theorem dX12_token_32 : decode cX12_token 32 = .ok (.aload_n 0, 1) := by decide +kernel
theorem dX12_token_33 : decode cX12_token 33 = .ok (.getfield 80, 3) := by decide +kernel
theorem dX12_token_36 : decode cX12_token 36 = .ok (.putfield 90, 3) := by decide +kernel
theorem dX12_token_39 : decode cX12_token 39 = .ok (.aload_n 0, 1) := by decide +kernel
theorem dX12_token_40 : decode cX12_token 40 = .ok (.invokevirtual 86, 3) := by decide +kernel
theorem dX12_token_43 : decode cX12_token 43 = .ok (.istore_n 1, 1) := by decide +kernel
theorem dX12_token_44 : decode cX12_token 44 = .ok (.aload_n 0, 1) := by decide +kernel
theorem dX12_token_45 : decode cX12_token 45 = .ok (.lconst 0, 1) := by decide +kernel
theorem dX12_token_46 : decode cX12_token 46 = .ok (.putfield 93, 3) := by decide +kernel
theorem dX12_token_49 : decode cX12_token 49 = .ok (.iconst 0, 1) := by decide +kernel
theorem dX12_token_50 : decode cX12_token 50 = .ok (.istore_n 2, 1) := by decide +kernel
theorem dX12_token_51 : decode cX12_token 51 = .ok (.iload_n 1, 1) := by decide +kernel
theorem dX12_token_52 : decode cX12_token 52 = .ok (.ifCond .ge 11, 3) := by decide +kernel
theorem dX12_token_55 : decode cX12_token 55 = .ok (.aload_n 0, 1) := by decide +kernel
theorem dX12_token_56 : decode cX12_token 56 = .ok (.iconst 0, 1) := by decide +kernel
theorem dX12_token_57 : decode cX12_token 57 = .ok (.putfield 97, 3) := by decide +kernel
theorem dX12_token_60 : decode cX12_token 60 = .ok (.goto 206, 3) := by decide +kernel
theorem dX12_token_63 : decode cX12_token 63 = .ok (.iload_n 1, 1) := by decide +kernel
theorem dX12_token_64 : decode cX12_token 64 = .ok (.bipush 97, 2) := by decide +kernel
theorem dX12_token_66 : decode cX12_token 66 = .ok (.bipush 122, 2) := by decide +kernel
theorem dX12_token_68 : decode cX12_token 68 = .ok (.invokestatic 72, 3) := by decide +kernel
theorem dX12_token_71 : decode cX12_token 71 = .ok (.ifCond .eq 76, 3) := by decide +kernel
theorem dX12_token_74 : decode cX12_token 74 = .ok (.aload_n 0, 1) := by decide +kernel
theorem dX12_token_75 : decode cX12_token 75 = .ok (.invokevirtual 86, 3) := by decide +kernel
theorem dX12_token_78 : decode cX12_token 78 = .ok (.bipush 97, 2) := by decide +kernel
theorem dX12_token_80 : decode cX12_token 80 = .ok (.bipush 122, 2) := by decide +kernel
theorem dX12_token_82 : decode cX12_token 82 = .ok (.invokestatic 72, 3) := by decide +kernel
theorem dX12_token_85 : decode cX12_token 85 = .ok (.ifCond .eq 36, 3) := by decide +kernel
theorem dX12_token_88 : decode cX12_token 88 = .ok (.aload_n 0, 1) := by decide +kernel
theorem dX12_token_89 : decode cX12_token 89 = .ok (.aload_n 0, 1) := by decide +kernel
theorem dX12_token_90 : decode cX12_token 90 = .ok (.getfield 93, 3) := by decide +kernel
theorem dX12_token_93 : decode cX12_token 93 = .ok (.bipush 8, 2) := by decide +kernel
theorem dX12_token_95 : decode cX12_token 95 = .ok (.lshl, 1) := by decide +kernel
theorem dX12_token_96 : decode cX12_token 96 = .ok (.aload_n 0, 1) := by decide +kernel
theorem dX12_token_97 : decode cX12_token 97 = .ok (.invokevirtual 86, 3) := by decide +kernel
theorem dX12_token_100 : decode cX12_token 100 = .ok (.i2l, 1) := by decide +kernel
theorem dX12_token_101 : decode cX12_token 101 = .ok (.lor, 1) := by decide +kernel
theorem dX12_token_102 : decode cX12_token 102 = .ok (.putfield 93, 3) := by decide +kernel
theorem dX12_token_105 : decode cX12_token 105 = .ok (.aload_n 0, 1) := by decide +kernel
theorem dX12_token_106 : decode cX12_token 106 = .ok (.dup, 1) := by decide +kernel
theorem dX12_token_107 : decode cX12_token 107 = .ok (.getfield 80, 3) := by decide +kernel
theorem dX12_token_110 : decode cX12_token 110 = .ok (.iconst 1, 1) := by decide +kernel
theorem dX12_token_111 : decode cX12_token 111 = .ok (.iadd, 1) := by decide +kernel
theorem dX12_token_112 : decode cX12_token 112 = .ok (.putfield 80, 3) := by decide +kernel
theorem dX12_token_115 : decode cX12_token 115 = .ok (.iinc 2 1, 3) := by decide +kernel
theorem dX12_token_118 : decode cX12_token 118 = .ok (.goto (-44), 3) := by decide +kernel
theorem dX12_token_121 : decode cX12_token 121 = .ok (.aload_n 0, 1) := by decide +kernel
theorem dX12_token_122 : decode cX12_token 122 = .ok (.iload_n 2, 1) := by decide +kernel
theorem dX12_token_123 : decode cX12_token 123 = .ok (.bipush 8, 2) := by decide +kernel
theorem dX12_token_125 : decode cX12_token 125 = .ok (.if_icmp .le 7, 3) := by decide +kernel
theorem dX12_token_128 : decode cX12_token 128 = .ok (.lconst 0, 1) := by decide +kernel
theorem dX12_token_129 : decode cX12_token 129 = .ok (.goto 7, 3) := by decide +kernel
theorem dX12_token_132 : decode cX12_token 132 = .ok (.aload_n 0, 1) := by decide +kernel
theorem dX12_token_133 : decode cX12_token 133 = .ok (.getfield 93, 3) := by decide +kernel
theorem dX12_token_136 : decode cX12_token 136 = .ok (.putfield 93, 3) := by decide +kernel
theorem dX12_token_139 : decode cX12_token 139 = .ok (.aload_n 0, 1) := by decide +kernel
theorem dX12_token_140 : decode cX12_token 140 = .ok (.iconst 2, 1) := by decide +kernel
theorem dX12_token_141 : decode cX12_token 141 = .ok (.putfield 97, 3) := by decide +kernel
theorem dX12_token_144 : decode cX12_token 144 = .ok (.goto 122, 3) := by decide +kernel
theorem dX12_token_147 : decode cX12_token 147 = .ok (.iload_n 1, 1) := by decide +kernel
theorem dX12_token_148 : decode cX12_token 148 = .ok (.bipush 48, 2) := by decide +kernel
theorem dX12_token_150 : decode cX12_token 150 = .ok (.bipush 57, 2) := by decide +kernel
theorem dX12_token_152 : decode cX12_token 152 = .ok (.invokestatic 72, 3) := by decide +kernel
theorem dX12_token_155 : decode cX12_token 155 = .ok (.ifCond .eq 86, 3) := by decide +kernel
theorem dX12_token_158 : decode cX12_token 158 = .ok (.aload_n 0, 1) := by decide +kernel
theorem dX12_token_159 : decode cX12_token 159 = .ok (.iconst 0, 1) := by decide +kernel
theorem dX12_token_160 : decode cX12_token 160 = .ok (.putfield 100, 3) := by decide +kernel
theorem dX12_token_163 : decode cX12_token 163 = .ok (.aload_n 0, 1) := by decide +kernel
theorem dX12_token_164 : decode cX12_token 164 = .ok (.invokevirtual 86, 3) := by decide +kernel
theorem dX12_token_167 : decode cX12_token 167 = .ok (.bipush 48, 2) := by decide +kernel
theorem dX12_token_169 : decode cX12_token 169 = .ok (.bipush 57, 2) := by decide +kernel
theorem dX12_token_171 : decode cX12_token 171 = .ok (.invokestatic 72, 3) := by decide +kernel
theorem dX12_token_174 : decode cX12_token 174 = .ok (.ifCond .eq 50, 3) := by decide +kernel
theorem dX12_token_177 : decode cX12_token 177 = .ok (.aload_n 0, 1) := by decide +kernel
theorem dX12_token_178 : decode cX12_token 178 = .ok (.iload_n 2, 1) := by decide +kernel
theorem dX12_token_179 : decode cX12_token 179 = .ok (.iconst 2, 1) := by decide +kernel
theorem dX12_token_180 : decode cX12_token 180 = .ok (.if_icmp .ge 21, 3) := by decide +kernel
theorem dX12_token_183 : decode cX12_token 183 = .ok (.bipush 10, 2) := by decide +kernel
theorem dX12_token_185 : decode cX12_token 185 = .ok (.aload_n 0, 1) := by decide +kernel
theorem dX12_token_186 : decode cX12_token 186 = .ok (.getfield 100, 3) := by decide +kernel
theorem dX12_token_189 : decode cX12_token 189 = .ok (.imul, 1) := by decide +kernel
theorem dX12_token_190 : decode cX12_token 190 = .ok (.aload_n 0, 1) := by decide +kernel
theorem dX12_token_191 : decode cX12_token 191 = .ok (.invokevirtual 86, 3) := by decide +kernel
theorem dX12_token_194 : decode cX12_token 194 = .ok (.iadd, 1) := by decide +kernel
theorem dX12_token_195 : decode cX12_token 195 = .ok (.bipush 48, 2) := by decide +kernel
theorem dX12_token_197 : decode cX12_token 197 = .ok (.isub, 1) := by decide +kernel
theorem dX12_token_198 : decode cX12_token 198 = .ok (.goto 7, 3) := by decide +kernel
theorem dX12_token_201 : decode cX12_token 201 = .ok (.aload_n 0, 1) := by decide +kernel
theorem dX12_token_202 : decode cX12_token 202 = .ok (.getfield 100, 3) := by decide +kernel
theorem dX12_token_205 : decode cX12_token 205 = .ok (.putfield 100, 3) := by decide +kernel
theorem dX12_token_208 : decode cX12_token 208 = .ok (.aload_n 0, 1) := by decide +kernel
theorem dX12_token_209 : decode cX12_token 209 = .ok (.dup, 1) := by decide +kernel
theorem dX12_token_210 : decode cX12_token 210 = .ok (.getfield 80, 3) := by decide +kernel
theorem dX12_token_213 : decode cX12_token 213 = .ok (.iconst 1, 1) := by decide +kernel
theorem dX12_token_214 : decode cX12_token 214 = .ok (.iadd, 1) := by decide +kernel
theorem dX12_token_215 : decode cX12_token 215 = .ok (.putfield 80, 3) := by decide +kernel
theorem dX12_token_218 : decode cX12_token 218 = .ok (.iinc 2 1, 3) := by decide +kernel
theorem dX12_token_221 : decode cX12_token 221 = .ok (.goto (-58), 3) := by decide +kernel
theorem dX12_token_224 : decode cX12_token 224 = .ok (.aload_n 0, 1) := by decide +kernel
theorem dX12_token_225 : decode cX12_token 225 = .ok (.iload_n 2, 1) := by decide +kernel
theorem dX12_token_226 : decode cX12_token 226 = .ok (.iconst 2, 1) := by decide +kernel
theorem dX12_token_227 : decode cX12_token 227 = .ok (.if_icmp .le 7, 3) := by decide +kernel
theorem dX12_token_230 : decode cX12_token 230 = .ok (.iconst 1, 1) := by decide +kernel
theorem dX12_token_231 : decode cX12_token 231 = .ok (.goto 4, 3) := by decide +kernel
theorem dX12_token_234 : decode cX12_token 234 = .ok (.iconst 3, 1) := by decide +kernel
theorem dX12_token_235 : decode cX12_token 235 = .ok (.putfield 97, 3) := by decide +kernel
theorem dX12_token_238 : decode cX12_token 238 = .ok (.goto 28, 3) := by decide +kernel
theorem dX12_token_241 : decode cX12_token 241 = .ok (.aload_n 0, 1) := by decide +kernel
theorem dX12_token_242 : decode cX12_token 242 = .ok (.dup, 1) := by decide +kernel
theorem dX12_token_243 : decode cX12_token 243 = .ok (.getfield 80, 3) := by decide +kernel
theorem dX12_token_246 : decode cX12_token 246 = .ok (.iconst 1, 1) := by decide +kernel
theorem dX12_token_247 : decode cX12_token 247 = .ok (.iadd, 1) := by decide +kernel
theorem dX12_token_248 : decode cX12_token 248 = .ok (.putfield 80, 3) := by decide +kernel
theorem dX12_token_251 : decode cX12_token 251 = .ok (.aload_n 0, 1) := by decide +kernel
theorem dX12_token_252 : decode cX12_token 252 = .ok (.iload_n 1, 1) := by decide +kernel
theorem dX12_token_253 : decode cX12_token 253 = .ok (.bipush 59, 2) := by decide +kernel
theorem dX12_token_255 : decode cX12_token 255 = .ok (.if_icmp .ne 7, 3) := by decide +kernel
theorem dX12_token_258 : decode cX12_token 258 = .ok (.iconst 4, 1) := by decide +kernel
theorem dX12_token_259 : decode cX12_token 259 = .ok (.goto 4, 3) := by decide +kernel
theorem dX12_token_262 : decode cX12_token 262 = .ok (.iconst 1, 1) := by decide +kernel
theorem dX12_token_263 : decode cX12_token 263 = .ok (.putfield 97, 3) := by decide +kernel
theorem dX12_token_266 : decode cX12_token 266 = .ok (.return_, 1) := by decide +kernel
theorem dX12_fails_0 : decode cX12_fails 0 = .ok (.aload_n 0, 1) := by decide +kernel
theorem dX12_fails_1 : decode cX12_fails 1 = .ok (.aload_n 0, 1) := by decide +kernel
theorem dX12_fails_2 : decode cX12_fails 2 = .ok (.getfield 90, 3) := by decide +kernel
theorem dX12_fails_5 : decode cX12_fails 5 = .ok (.putfield 103, 3) := by decide +kernel
theorem dX12_fails_8 : decode cX12_fails 8 = .ok (.iconst 0, 1) := by decide +kernel
theorem dX12_fails_9 : decode cX12_fails 9 = .ok (.ireturn, 1) := by decide +kernel
theorem dX12_addsFault_0 : decode cX12_addsFault 0 = .ok (.aload_n 0, 1) := by decide +kernel
theorem dX12_addsFault_1 : decode cX12_addsFault 1 = .ok (.getfield 106, 3) := by decide +kernel
theorem dX12_addsFault_4 : decode cX12_addsFault 4 = .ok (.ifCond .eq 27, 3) := by decide +kernel
theorem dX12_addsFault_7 : decode cX12_addsFault 7 = .ok (.iload_n 2, 1) := by decide +kernel
theorem dX12_addsFault_8 : decode cX12_addsFault 8 = .ok (.aload_n 0, 1) := by decide +kernel
theorem dX12_addsFault_9 : decode cX12_addsFault 9 = .ok (.getfield 109, 3) := by decide +kernel
theorem dX12_addsFault_12 : decode cX12_addsFault 12 = .ok (.if_icmp .lt 19, 3) := by decide +kernel
theorem dX12_addsFault_15 : decode cX12_addsFault 15 = .ok (.iload_n 2, 1) := by decide +kernel
theorem dX12_addsFault_16 : decode cX12_addsFault 16 = .ok (.aload_n 0, 1) := by decide +kernel
theorem dX12_addsFault_17 : decode cX12_addsFault 17 = .ok (.getfield 109, 3) := by decide +kernel
theorem dX12_addsFault_20 : decode cX12_addsFault 20 = .ok (.if_icmp .ne 21, 3) := by decide +kernel
theorem dX12_addsFault_23 : decode cX12_addsFault 23 = .ok (.iload_n 1, 1) := by decide +kernel
theorem dX12_addsFault_24 : decode cX12_addsFault 24 = .ok (.aload_n 0, 1) := by decide +kernel
theorem dX12_addsFault_25 : decode cX12_addsFault 25 = .ok (.getfield 106, 3) := by decide +kernel
theorem dX12_addsFault_28 : decode cX12_addsFault 28 = .ok (.if_icmp .ge 13, 3) := by decide +kernel
theorem dX12_addsFault_31 : decode cX12_addsFault 31 = .ok (.aload_n 0, 1) := by decide +kernel
theorem dX12_addsFault_32 : decode cX12_addsFault 32 = .ok (.iload_n 1, 1) := by decide +kernel
theorem dX12_addsFault_33 : decode cX12_addsFault 33 = .ok (.putfield 106, 3) := by decide +kernel
theorem dX12_addsFault_36 : decode cX12_addsFault 36 = .ok (.aload_n 0, 1) := by decide +kernel
theorem dX12_addsFault_37 : decode cX12_addsFault 37 = .ok (.iload_n 2, 1) := by decide +kernel
theorem dX12_addsFault_38 : decode cX12_addsFault 38 = .ok (.putfield 109, 3) := by decide +kernel
theorem dX12_addsFault_41 : decode cX12_addsFault 41 = .ok (.return_, 1) := by decide +kernel
theorem dX12_take_0 : decode cX12_take 0 = .ok (.aload_n 0, 1) := by decide +kernel
theorem dX12_take_1 : decode cX12_take 1 = .ok (.getfield 97, 3) := by decide +kernel
theorem dX12_take_4 : decode cX12_take 4 = .ok (.iconst 3, 1) := by decide +kernel
theorem dX12_take_5 : decode cX12_take 5 = .ok (.if_icmp .eq 8, 3) := by decide +kernel
theorem dX12_take_8 : decode cX12_take 8 = .ok (.aload_n 0, 1) := by decide +kernel
theorem dX12_take_9 : decode cX12_take 9 = .ok (.invokevirtual 112, 3) := by decide +kernel
theorem dX12_take_12 : decode cX12_take 12 = .ok (.ireturn, 1) := by decide +kernel
theorem dX12_take_13 : decode cX12_take 13 = .ok (.aload_n 0, 1) := by decide +kernel
theorem dX12_take_14 : decode cX12_take 14 = .ok (.getfield 38, 3) := by decide +kernel
theorem dX12_take_17 : decode cX12_take 17 = .ok (.iload_n 1, 1) := by decide +kernel
theorem dX12_take_18 : decode cX12_take 18 = .ok (.aload_n 0, 1) := by decide +kernel
theorem dX12_take_19 : decode cX12_take 19 = .ok (.getfield 100, 3) := by decide +kernel
theorem dX12_take_22 : decode cX12_take 22 = .ok (.iastore, 1) := by decide +kernel
theorem dX12_take_23 : decode cX12_take 23 = .ok (.aload_n 0, 1) := by decide +kernel
theorem dX12_take_24 : decode cX12_take 24 = .ok (.getfield 100, 3) := by decide +kernel
theorem dX12_take_27 : decode cX12_take 27 = .ok (.iload_n 2, 1) := by decide +kernel
theorem dX12_take_28 : decode cX12_take 28 = .ok (.iload_n 3, 1) := by decide +kernel
theorem dX12_take_29 : decode cX12_take 29 = .ok (.invokestatic 72, 3) := by decide +kernel
theorem dX12_take_32 : decode cX12_take 32 = .ok (.ifCond .ne 17, 3) := by decide +kernel
theorem dX12_take_35 : decode cX12_take 35 = .ok (.aload_n 0, 1) := by decide +kernel
theorem dX12_take_36 : decode cX12_take 36 = .ok (.iconst 2, 1) := by decide +kernel
theorem dX12_take_37 : decode cX12_take 37 = .ok (.aload_n 0, 1) := by decide +kernel
theorem dX12_take_38 : decode cX12_take 38 = .ok (.getfield 90, 3) := by decide +kernel
theorem dX12_take_41 : decode cX12_take 41 = .ok (.invokevirtual 116, 3) := by decide +kernel
theorem dX12_take_44 : decode cX12_take 44 = .ok (.aload_n 0, 1) := by decide +kernel
theorem dX12_take_45 : decode cX12_take 45 = .ok (.iconst 0, 1) := by decide +kernel
theorem dX12_take_46 : decode cX12_take 46 = .ok (.putfield 120, 3) := by decide +kernel
theorem dX12_take_49 : decode cX12_take 49 = .ok (.aload_n 0, 1) := by decide +kernel
theorem dX12_take_50 : decode cX12_take 50 = .ok (.invokevirtual 124, 3) := by decide +kernel
theorem dX12_take_53 : decode cX12_take 53 = .ok (.iconst 1, 1) := by decide +kernel
theorem dX12_take_54 : decode cX12_take 54 = .ok (.ireturn, 1) := by decide +kernel
theorem dX12_numberOf_0 : decode cX12_numberOf 0 = .ok (.iconst 0, 1) := by decide +kernel
theorem dX12_numberOf_1 : decode cX12_numberOf 1 = .ok (.istore_n 2, 1) := by decide +kernel
theorem dX12_numberOf_2 : decode cX12_numberOf 2 = .ok (.bipush 24, 2) := by decide +kernel
theorem dX12_numberOf_4 : decode cX12_numberOf 4 = .ok (.istore_n 3, 1) := by decide +kernel
theorem dX12_numberOf_5 : decode cX12_numberOf 5 = .ok (.iload_n 3, 1) := by decide +kernel
theorem dX12_numberOf_6 : decode cX12_numberOf 6 = .ok (.ifCond .lt 39, 3) := by decide +kernel
theorem dX12_numberOf_9 : decode cX12_numberOf 9 = .ok (.lload_n 0, 1) := by decide +kernel
theorem dX12_numberOf_10 : decode cX12_numberOf 10 = .ok (.iload_n 3, 1) := by decide +kernel
theorem dX12_numberOf_11 : decode cX12_numberOf 11 = .ok (.lshr, 1) := by decide +kernel
theorem dX12_numberOf_12 : decode cX12_numberOf 12 = .ok (.ldc2_w 127, 3) := by decide +kernel
theorem dX12_numberOf_15 : decode cX12_numberOf 15 = .ok (.land, 1) := by decide +kernel
theorem dX12_numberOf_16 : decode cX12_numberOf 16 = .ok (.l2i, 1) := by decide +kernel
theorem dX12_numberOf_17 : decode cX12_numberOf 17 = .ok (.istore 4, 2) := by decide +kernel
theorem dX12_numberOf_19 : decode cX12_numberOf 19 = .ok (.iload 4, 2) := by decide +kernel
theorem dX12_numberOf_21 : decode cX12_numberOf 21 = .ok (.ifCond .ne 7, 3) := by decide +kernel
theorem dX12_numberOf_24 : decode cX12_numberOf 24 = .ok (.iload_n 2, 1) := by decide +kernel
theorem dX12_numberOf_25 : decode cX12_numberOf 25 = .ok (.goto 13, 3) := by decide +kernel
theorem dX12_numberOf_28 : decode cX12_numberOf 28 = .ok (.bipush 27, 2) := by decide +kernel
theorem dX12_numberOf_30 : decode cX12_numberOf 30 = .ok (.iload_n 2, 1) := by decide +kernel
theorem dX12_numberOf_31 : decode cX12_numberOf 31 = .ok (.imul, 1) := by decide +kernel
theorem dX12_numberOf_32 : decode cX12_numberOf 32 = .ok (.iload 4, 2) := by decide +kernel
theorem dX12_numberOf_34 : decode cX12_numberOf 34 = .ok (.iadd, 1) := by decide +kernel
theorem dX12_numberOf_35 : decode cX12_numberOf 35 = .ok (.bipush 96, 2) := by decide +kernel
theorem dX12_numberOf_37 : decode cX12_numberOf 37 = .ok (.isub, 1) := by decide +kernel
theorem dX12_numberOf_38 : decode cX12_numberOf 38 = .ok (.istore_n 2, 1) := by decide +kernel
theorem dX12_numberOf_39 : decode cX12_numberOf 39 = .ok (.iinc 3 (-8), 3) := by decide +kernel
theorem dX12_numberOf_42 : decode cX12_numberOf 42 = .ok (.goto (-37), 3) := by decide +kernel
theorem dX12_numberOf_45 : decode cX12_numberOf 45 = .ok (.iload_n 2, 1) := by decide +kernel
theorem dX12_numberOf_46 : decode cX12_numberOf 46 = .ok (.ireturn, 1) := by decide +kernel
theorem dX12_takeWord_0 : decode cX12_takeWord 0 = .ok (.aload_n 0, 1) := by decide +kernel
theorem dX12_takeWord_1 : decode cX12_takeWord 1 = .ok (.getfield 97, 3) := by decide +kernel
theorem dX12_takeWord_4 : decode cX12_takeWord 4 = .ok (.iconst 2, 1) := by decide +kernel
theorem dX12_takeWord_5 : decode cX12_takeWord 5 = .ok (.if_icmp .eq 8, 3) := by decide +kernel
theorem dX12_takeWord_8 : decode cX12_takeWord 8 = .ok (.aload_n 0, 1) := by decide +kernel
theorem dX12_takeWord_9 : decode cX12_takeWord 9 = .ok (.invokevirtual 112, 3) := by decide +kernel
theorem dX12_takeWord_12 : decode cX12_takeWord 12 = .ok (.ireturn, 1) := by decide +kernel
theorem dX12_takeWord_13 : decode cX12_takeWord 13 = .ok (.aload_n 0, 1) := by decide +kernel
theorem dX12_takeWord_14 : decode cX12_takeWord 14 = .ok (.getfield 80, 3) := by decide +kernel
theorem dX12_takeWord_17 : decode cX12_takeWord 17 = .ok (.aload_n 0, 1) := by decide +kernel
theorem dX12_takeWord_18 : decode cX12_takeWord 18 = .ok (.getfield 90, 3) := by decide +kernel
theorem dX12_takeWord_21 : decode cX12_takeWord 21 = .ok (.isub, 1) := by decide +kernel
theorem dX12_takeWord_22 : decode cX12_takeWord 22 = .ok (.iconst 4, 1) := by decide +kernel
theorem dX12_takeWord_23 : decode cX12_takeWord 23 = .ok (.if_icmp .le 17, 3) := by decide +kernel
theorem dX12_takeWord_26 : decode cX12_takeWord 26 = .ok (.aload_n 0, 1) := by decide +kernel
theorem dX12_takeWord_27 : decode cX12_takeWord 27 = .ok (.iconst 2, 1) := by decide +kernel
theorem dX12_takeWord_28 : decode cX12_takeWord 28 = .ok (.aload_n 0, 1) := by decide +kernel
theorem dX12_takeWord_29 : decode cX12_takeWord 29 = .ok (.getfield 90, 3) := by decide +kernel
theorem dX12_takeWord_32 : decode cX12_takeWord 32 = .ok (.invokevirtual 116, 3) := by decide +kernel
theorem dX12_takeWord_35 : decode cX12_takeWord 35 = .ok (.aload_n 0, 1) := by decide +kernel
theorem dX12_takeWord_36 : decode cX12_takeWord 36 = .ok (.iconst 0, 1) := by decide +kernel
theorem dX12_takeWord_37 : decode cX12_takeWord 37 = .ok (.putfield 120, 3) := by decide +kernel
theorem dX12_takeWord_40 : decode cX12_takeWord 40 = .ok (.aload_n 0, 1) := by decide +kernel
theorem dX12_takeWord_41 : decode cX12_takeWord 41 = .ok (.getfield 41, 3) := by decide +kernel
theorem dX12_takeWord_44 : decode cX12_takeWord 44 = .ok (.aload_n 0, 1) := by decide +kernel
theorem dX12_takeWord_45 : decode cX12_takeWord 45 = .ok (.getfield 129, 3) := by decide +kernel
theorem dX12_takeWord_48 : decode cX12_takeWord 48 = .ok (.aload_n 0, 1) := by decide +kernel
theorem dX12_takeWord_49 : decode cX12_takeWord 49 = .ok (.getfield 93, 3) := by decide +kernel
theorem dX12_takeWord_52 : decode cX12_takeWord 52 = .ok (.invokestatic 132, 3) := by decide +kernel
theorem dX12_takeWord_55 : decode cX12_takeWord 55 = .ok (.iastore, 1) := by decide +kernel
theorem dX12_takeWord_56 : decode cX12_takeWord 56 = .ok (.aload_n 0, 1) := by decide +kernel
theorem dX12_takeWord_57 : decode cX12_takeWord 57 = .ok (.dup, 1) := by decide +kernel
theorem dX12_takeWord_58 : decode cX12_takeWord 58 = .ok (.getfield 129, 3) := by decide +kernel
theorem dX12_takeWord_61 : decode cX12_takeWord 61 = .ok (.iconst 1, 1) := by decide +kernel
theorem dX12_takeWord_62 : decode cX12_takeWord 62 = .ok (.iadd, 1) := by decide +kernel
theorem dX12_takeWord_63 : decode cX12_takeWord 63 = .ok (.putfield 129, 3) := by decide +kernel
theorem dX12_takeWord_66 : decode cX12_takeWord 66 = .ok (.aload_n 0, 1) := by decide +kernel
theorem dX12_takeWord_67 : decode cX12_takeWord 67 = .ok (.invokevirtual 124, 3) := by decide +kernel
theorem dX12_takeWord_70 : decode cX12_takeWord 70 = .ok (.iconst 1, 1) := by decide +kernel
theorem dX12_takeWord_71 : decode cX12_takeWord 71 = .ok (.ireturn, 1) := by decide +kernel
theorem dX12_takeWords_0 : decode cX12_takeWords 0 = .ok (.aload_n 0, 1) := by decide +kernel
theorem dX12_takeWords_1 : decode cX12_takeWords 1 = .ok (.getfield 97, 3) := by decide +kernel
theorem dX12_takeWords_4 : decode cX12_takeWords 4 = .ok (.iconst 2, 1) := by decide +kernel
theorem dX12_takeWords_5 : decode cX12_takeWords 5 = .ok (.if_icmp .ne 28, 3) := by decide +kernel
theorem dX12_takeWords_8 : decode cX12_takeWords 8 = .ok (.aload_n 0, 1) := by decide +kernel
theorem dX12_takeWords_9 : decode cX12_takeWords 9 = .ok (.getfield 129, 3) := by decide +kernel
theorem dX12_takeWords_12 : decode cX12_takeWords 12 = .ok (.iload_n 1, 1) := by decide +kernel
theorem dX12_takeWords_13 : decode cX12_takeWords 13 = .ok (.if_icmp .lt 12, 3) := by decide +kernel
theorem dX12_takeWords_16 : decode cX12_takeWords 16 = .ok (.aload_n 0, 1) := by decide +kernel
theorem dX12_takeWords_17 : decode cX12_takeWords 17 = .ok (.iconst 3, 1) := by decide +kernel
theorem dX12_takeWords_18 : decode cX12_takeWords 18 = .ok (.aload_n 0, 1) := by decide +kernel
theorem dX12_takeWords_19 : decode cX12_takeWords 19 = .ok (.getfield 90, 3) := by decide +kernel
theorem dX12_takeWords_22 : decode cX12_takeWords 22 = .ok (.invokevirtual 116, 3) := by decide +kernel
theorem dX12_takeWords_25 : decode cX12_takeWords 25 = .ok (.aload_n 0, 1) := by decide +kernel
theorem dX12_takeWords_26 : decode cX12_takeWords 26 = .ok (.invokevirtual 136, 3) := by decide +kernel
theorem dX12_takeWords_29 : decode cX12_takeWords 29 = .ok (.pop, 1) := by decide +kernel
theorem dX12_takeWords_30 : decode cX12_takeWords 30 = .ok (.goto (-30), 3) := by decide +kernel
theorem dX12_takeWords_33 : decode cX12_takeWords 33 = .ok (.return_, 1) := by decide +kernel
theorem dX12_at_0 : decode cX12_at 0 = .ok (.bipush 10, 2) := by decide +kernel
theorem dX12_at_2 : decode cX12_at 2 = .ok (.iload_n 0, 1) := by decide +kernel
theorem dX12_at_3 : decode cX12_at 3 = .ok (.imul, 1) := by decide +kernel
theorem dX12_at_4 : decode cX12_at 4 = .ok (.iload_n 1, 1) := by decide +kernel
theorem dX12_at_5 : decode cX12_at 5 = .ok (.iadd, 1) := by decide +kernel
theorem dX12_at_6 : decode cX12_at 6 = .ok (.ireturn, 1) := by decide +kernel
theorem dX12_beginVersion_0 : decode cX12_beginVersion 0 = .ok (.aload_n 0, 1) := by decide +kernel
theorem dX12_beginVersion_1 : decode cX12_beginVersion 1 = .ok (.getfield 35, 3) := by decide +kernel
theorem dX12_beginVersion_4 : decode cX12_beginVersion 4 = .ok (.iconst 1, 1) := by decide +kernel
theorem dX12_beginVersion_5 : decode cX12_beginVersion 5 = .ok (.iload_n 1, 1) := by decide +kernel
theorem dX12_beginVersion_6 : decode cX12_beginVersion 6 = .ok (.iadd, 1) := by decide +kernel
theorem dX12_beginVersion_7 : decode cX12_beginVersion 7 = .ok (.dup2, 1) := by decide +kernel
theorem dX12_beginVersion_8 : decode cX12_beginVersion 8 = .ok (.iaload, 1) := by decide +kernel
theorem dX12_beginVersion_9 : decode cX12_beginVersion 9 = .ok (.iconst 1, 1) := by decide +kernel
theorem dX12_beginVersion_10 : decode cX12_beginVersion 10 = .ok (.iadd, 1) := by decide +kernel
theorem dX12_beginVersion_11 : decode cX12_beginVersion 11 = .ok (.iastore, 1) := by decide +kernel
theorem dX12_beginVersion_12 : decode cX12_beginVersion 12 = .ok (.aload_n 0, 1) := by decide +kernel
theorem dX12_beginVersion_13 : decode cX12_beginVersion 13 = .ok (.getfield 35, 3) := by decide +kernel
theorem dX12_beginVersion_16 : decode cX12_beginVersion 16 = .ok (.bipush 46, 2) := by decide +kernel
theorem dX12_beginVersion_18 : decode cX12_beginVersion 18 = .ok (.aload_n 0, 1) := by decide +kernel
theorem dX12_beginVersion_19 : decode cX12_beginVersion 19 = .ok (.iload_n 1, 1) := by decide +kernel
theorem dX12_beginVersion_20 : decode cX12_beginVersion 20 = .ok (.invokevirtual 139, 3) := by decide +kernel
theorem dX12_beginVersion_23 : decode cX12_beginVersion 23 = .ok (.iadd, 1) := by decide +kernel
theorem dX12_beginVersion_24 : decode cX12_beginVersion 24 = .ok (.iconst 0, 1) := by decide +kernel
theorem dX12_beginVersion_25 : decode cX12_beginVersion 25 = .ok (.iastore, 1) := by decide +kernel
theorem dX12_beginVersion_26 : decode cX12_beginVersion 26 = .ok (.aload_n 0, 1) := by decide +kernel
theorem dX12_beginVersion_27 : decode cX12_beginVersion 27 = .ok (.getfield 35, 3) := by decide +kernel
theorem dX12_beginVersion_30 : decode cX12_beginVersion 30 = .ok (.bipush 6, 2) := by decide +kernel
theorem dX12_beginVersion_32 : decode cX12_beginVersion 32 = .ok (.aload_n 0, 1) := by decide +kernel
theorem dX12_beginVersion_33 : decode cX12_beginVersion 33 = .ok (.iload_n 1, 1) := by decide +kernel
theorem dX12_beginVersion_34 : decode cX12_beginVersion 34 = .ok (.invokevirtual 139, 3) := by decide +kernel
theorem dX12_beginVersion_37 : decode cX12_beginVersion 37 = .ok (.iadd, 1) := by decide +kernel
theorem dX12_beginVersion_38 : decode cX12_beginVersion 38 = .ok (.aload_n 0, 1) := by decide +kernel
theorem dX12_beginVersion_39 : decode cX12_beginVersion 39 = .ok (.getfield 143, 3) := by decide +kernel
theorem dX12_beginVersion_42 : decode cX12_beginVersion 42 = .ok (.iastore, 1) := by decide +kernel
theorem dX12_beginVersion_43 : decode cX12_beginVersion 43 = .ok (.return_, 1) := by decide +kernel
theorem dX12_latest_0 : decode cX12_latest 0 = .ok (.iload_n 1, 1) := by decide +kernel
theorem dX12_latest_1 : decode cX12_latest 1 = .ok (.aload_n 0, 1) := by decide +kernel
theorem dX12_latest_2 : decode cX12_latest 2 = .ok (.getfield 35, 3) := by decide +kernel
theorem dX12_latest_5 : decode cX12_latest 5 = .ok (.iconst 1, 1) := by decide +kernel
theorem dX12_latest_6 : decode cX12_latest 6 = .ok (.iload_n 1, 1) := by decide +kernel
theorem dX12_latest_7 : decode cX12_latest 7 = .ok (.iadd, 1) := by decide +kernel
theorem dX12_latest_8 : decode cX12_latest 8 = .ok (.iaload, 1) := by decide +kernel
theorem dX12_latest_9 : decode cX12_latest 9 = .ok (.iconst 1, 1) := by decide +kernel
theorem dX12_latest_10 : decode cX12_latest 10 = .ok (.isub, 1) := by decide +kernel
theorem dX12_latest_11 : decode cX12_latest 11 = .ok (.invokestatic 146, 3) := by decide +kernel
theorem dX12_latest_14 : decode cX12_latest 14 = .ok (.ireturn, 1) := by decide +kernel
theorem dX12_addWord_0 : decode cX12_addWord 0 = .ok (.aload_n 0, 1) := by decide +kernel
theorem dX12_addWord_1 : decode cX12_addWord 1 = .ok (.iload_n 1, 1) := by decide +kernel
theorem dX12_addWord_2 : decode cX12_addWord 2 = .ok (.invokevirtual 139, 3) := by decide +kernel
theorem dX12_addWord_5 : decode cX12_addWord 5 = .ok (.istore_n 3, 1) := by decide +kernel
theorem dX12_addWord_6 : decode cX12_addWord 6 = .ok (.aload_n 0, 1) := by decide +kernel
theorem dX12_addWord_7 : decode cX12_addWord 7 = .ok (.getfield 35, 3) := by decide +kernel
theorem dX12_addWord_10 : decode cX12_addWord 10 = .ok (.bipush 46, 2) := by decide +kernel
theorem dX12_addWord_12 : decode cX12_addWord 12 = .ok (.iload_n 3, 1) := by decide +kernel
theorem dX12_addWord_13 : decode cX12_addWord 13 = .ok (.iadd, 1) := by decide +kernel
theorem dX12_addWord_14 : decode cX12_addWord 14 = .ok (.iaload, 1) := by decide +kernel
theorem dX12_addWord_15 : decode cX12_addWord 15 = .ok (.istore 4, 2) := by decide +kernel
theorem dX12_addWord_17 : decode cX12_addWord 17 = .ok (.iload 4, 2) := by decide +kernel
theorem dX12_addWord_19 : decode cX12_addWord 19 = .ok (.bipush 20, 2) := by decide +kernel
theorem dX12_addWord_21 : decode cX12_addWord 21 = .ok (.if_icmp .ge 32, 3) := by decide +kernel
theorem dX12_addWord_24 : decode cX12_addWord 24 = .ok (.aload_n 0, 1) := by decide +kernel
theorem dX12_addWord_25 : decode cX12_addWord 25 = .ok (.getfield 35, 3) := by decide +kernel
theorem dX12_addWord_28 : decode cX12_addWord 28 = .ok (.bipush 86, 2) := by decide +kernel
theorem dX12_addWord_30 : decode cX12_addWord 30 = .ok (.bipush 20, 2) := by decide +kernel
theorem dX12_addWord_32 : decode cX12_addWord 32 = .ok (.iload_n 3, 1) := by decide +kernel
theorem dX12_addWord_33 : decode cX12_addWord 33 = .ok (.imul, 1) := by decide +kernel
theorem dX12_addWord_34 : decode cX12_addWord 34 = .ok (.iadd, 1) := by decide +kernel
theorem dX12_addWord_35 : decode cX12_addWord 35 = .ok (.iload 4, 2) := by decide +kernel
theorem dX12_addWord_37 : decode cX12_addWord 37 = .ok (.iadd, 1) := by decide +kernel
theorem dX12_addWord_38 : decode cX12_addWord 38 = .ok (.iload_n 2, 1) := by decide +kernel
theorem dX12_addWord_39 : decode cX12_addWord 39 = .ok (.iastore, 1) := by decide +kernel
theorem dX12_addWord_40 : decode cX12_addWord 40 = .ok (.aload_n 0, 1) := by decide +kernel
theorem dX12_addWord_41 : decode cX12_addWord 41 = .ok (.getfield 35, 3) := by decide +kernel
theorem dX12_addWord_44 : decode cX12_addWord 44 = .ok (.bipush 46, 2) := by decide +kernel
theorem dX12_addWord_46 : decode cX12_addWord 46 = .ok (.iload_n 3, 1) := by decide +kernel
theorem dX12_addWord_47 : decode cX12_addWord 47 = .ok (.iadd, 1) := by decide +kernel
theorem dX12_addWord_48 : decode cX12_addWord 48 = .ok (.dup2, 1) := by decide +kernel
theorem dX12_addWord_49 : decode cX12_addWord 49 = .ok (.iaload, 1) := by decide +kernel
theorem dX12_addWord_50 : decode cX12_addWord 50 = .ok (.iconst 1, 1) := by decide +kernel
theorem dX12_addWord_51 : decode cX12_addWord 51 = .ok (.iadd, 1) := by decide +kernel
theorem dX12_addWord_52 : decode cX12_addWord 52 = .ok (.iastore, 1) := by decide +kernel
theorem dX12_addWord_53 : decode cX12_addWord 53 = .ok (.return_, 1) := by decide +kernel
theorem dX12_newToken_0 : decode cX12_newToken 0 = .ok (.aload_n 0, 1) := by decide +kernel
theorem dX12_newToken_1 : decode cX12_newToken 1 = .ok (.getfield 35, 3) := by decide +kernel
theorem dX12_newToken_4 : decode cX12_newToken 4 = .ok (.iconst 5, 1) := by decide +kernel
theorem dX12_newToken_5 : decode cX12_newToken 5 = .ok (.iaload, 1) := by decide +kernel
theorem dX12_newToken_6 : decode cX12_newToken 6 = .ok (.istore_n 3, 1) := by decide +kernel
theorem dX12_newToken_7 : decode cX12_newToken 7 = .ok (.aload_n 0, 1) := by decide +kernel
theorem dX12_newToken_8 : decode cX12_newToken 8 = .ok (.getfield 35, 3) := by decide +kernel
theorem dX12_newToken_11 : decode cX12_newToken 11 = .ok (.sipush 886, 3) := by decide +kernel
theorem dX12_newToken_14 : decode cX12_newToken 14 = .ok (.iload_n 3, 1) := by decide +kernel
theorem dX12_newToken_15 : decode cX12_newToken 15 = .ok (.iadd, 1) := by decide +kernel
theorem dX12_newToken_16 : decode cX12_newToken 16 = .ok (.iload_n 2, 1) := by decide +kernel
theorem dX12_newToken_17 : decode cX12_newToken 17 = .ok (.iastore, 1) := by decide +kernel
theorem dX12_newToken_18 : decode cX12_newToken 18 = .ok (.aload_n 0, 1) := by decide +kernel
theorem dX12_newToken_19 : decode cX12_newToken 19 = .ok (.getfield 35, 3) := by decide +kernel
theorem dX12_newToken_22 : decode cX12_newToken 22 = .ok (.sipush 1206, 3) := by decide +kernel
theorem dX12_newToken_25 : decode cX12_newToken 25 = .ok (.iload_n 3, 1) := by decide +kernel
theorem dX12_newToken_26 : decode cX12_newToken 26 = .ok (.iadd, 1) := by decide +kernel
theorem dX12_newToken_27 : decode cX12_newToken 27 = .ok (.iload_n 1, 1) := by decide +kernel
theorem dX12_newToken_28 : decode cX12_newToken 28 = .ok (.iastore, 1) := by decide +kernel
theorem dX12_newToken_29 : decode cX12_newToken 29 = .ok (.aload_n 0, 1) := by decide +kernel
theorem dX12_newToken_30 : decode cX12_newToken 30 = .ok (.getfield 35, 3) := by decide +kernel
theorem dX12_newToken_33 : decode cX12_newToken 33 = .ok (.iconst 5, 1) := by decide +kernel
theorem dX12_newToken_34 : decode cX12_newToken 34 = .ok (.sipush 319, 3) := by decide +kernel
theorem dX12_newToken_37 : decode cX12_newToken 37 = .ok (.iload_n 3, 1) := by decide +kernel
theorem dX12_newToken_38 : decode cX12_newToken 38 = .ok (.iconst 1, 1) := by decide +kernel
theorem dX12_newToken_39 : decode cX12_newToken 39 = .ok (.iadd, 1) := by decide +kernel
theorem dX12_newToken_40 : decode cX12_newToken 40 = .ok (.invokestatic 150, 3) := by decide +kernel
theorem dX12_newToken_43 : decode cX12_newToken 43 = .ok (.iastore, 1) := by decide +kernel
theorem dX12_newToken_44 : decode cX12_newToken 44 = .ok (.iload_n 3, 1) := by decide +kernel
theorem dX12_newToken_45 : decode cX12_newToken 45 = .ok (.ireturn, 1) := by decide +kernel
theorem dX12_docLine_0 : decode cX12_docLine 0 = .ok (.aload_n 0, 1) := by decide +kernel
theorem dX12_docLine_1 : decode cX12_docLine 1 = .ok (.getfield 35, 3) := by decide +kernel
theorem dX12_docLine_4 : decode cX12_docLine 4 = .ok (.iconst 0, 1) := by decide +kernel
theorem dX12_docLine_5 : decode cX12_docLine 5 = .ok (.iaload, 1) := by decide +kernel
theorem dX12_docLine_6 : decode cX12_docLine 6 = .ok (.iconst 4, 1) := by decide +kernel
theorem dX12_docLine_7 : decode cX12_docLine 7 = .ok (.if_icmp .ne 9, 3) := by decide +kernel
theorem dX12_docLine_10 : decode cX12_docLine 10 = .ok (.aload_n 0, 1) := by decide +kernel
theorem dX12_docLine_11 : decode cX12_docLine 11 = .ok (.iconst 3, 1) := by decide +kernel
theorem dX12_docLine_12 : decode cX12_docLine 12 = .ok (.iload_n 1, 1) := by decide +kernel
theorem dX12_docLine_13 : decode cX12_docLine 13 = .ok (.invokevirtual 116, 3) := by decide +kernel
theorem dX12_docLine_16 : decode cX12_docLine 16 = .ok (.aload_n 0, 1) := by decide +kernel
theorem dX12_docLine_17 : decode cX12_docLine 17 = .ok (.invokevirtual 124, 3) := by decide +kernel
theorem dX12_docLine_20 : decode cX12_docLine 20 = .ok (.aload_n 0, 1) := by decide +kernel
theorem dX12_docLine_21 : decode cX12_docLine 21 = .ok (.bipush 20, 2) := by decide +kernel
theorem dX12_docLine_23 : decode cX12_docLine 23 = .ok (.invokevirtual 153, 3) := by decide +kernel
theorem dX12_docLine_26 : decode cX12_docLine 26 = .ok (.aload_n 0, 1) := by decide +kernel
theorem dX12_docLine_27 : decode cX12_docLine 27 = .ok (.getfield 106, 3) := by decide +kernel
theorem dX12_docLine_30 : decode cX12_docLine 30 = .ok (.ifCond .ne 57, 3) := by decide +kernel
theorem dX12_docLine_33 : decode cX12_docLine 33 = .ok (.aload_n 0, 1) := by decide +kernel
theorem dX12_docLine_34 : decode cX12_docLine 34 = .ok (.getfield 35, 3) := by decide +kernel
theorem dX12_docLine_37 : decode cX12_docLine 37 = .ok (.iconst 0, 1) := by decide +kernel
theorem dX12_docLine_38 : decode cX12_docLine 38 = .ok (.iaload, 1) := by decide +kernel
theorem dX12_docLine_39 : decode cX12_docLine 39 = .ok (.istore_n 2, 1) := by decide +kernel
theorem dX12_docLine_40 : decode cX12_docLine 40 = .ok (.aload_n 0, 1) := by decide +kernel
theorem dX12_docLine_41 : decode cX12_docLine 41 = .ok (.getfield 35, 3) := by decide +kernel
theorem dX12_docLine_44 : decode cX12_docLine 44 = .ok (.iconst 0, 1) := by decide +kernel
theorem dX12_docLine_45 : decode cX12_docLine 45 = .ok (.dup2, 1) := by decide +kernel
theorem dX12_docLine_46 : decode cX12_docLine 46 = .ok (.iaload, 1) := by decide +kernel
theorem dX12_docLine_47 : decode cX12_docLine 47 = .ok (.iconst 1, 1) := by decide +kernel
theorem dX12_docLine_48 : decode cX12_docLine 48 = .ok (.iadd, 1) := by decide +kernel
theorem dX12_docLine_49 : decode cX12_docLine 49 = .ok (.iastore, 1) := by decide +kernel
theorem dX12_docLine_50 : decode cX12_docLine 50 = .ok (.aload_n 0, 1) := by decide +kernel
theorem dX12_docLine_51 : decode cX12_docLine 51 = .ok (.iload_n 2, 1) := by decide +kernel
theorem dX12_docLine_52 : decode cX12_docLine 52 = .ok (.invokevirtual 156, 3) := by decide +kernel
theorem dX12_docLine_55 : decode cX12_docLine 55 = .ok (.iconst 0, 1) := by decide +kernel
theorem dX12_docLine_56 : decode cX12_docLine 56 = .ok (.istore_n 3, 1) := by decide +kernel
theorem dX12_docLine_57 : decode cX12_docLine 57 = .ok (.iload_n 3, 1) := by decide +kernel
theorem dX12_docLine_58 : decode cX12_docLine 58 = .ok (.aload_n 0, 1) := by decide +kernel
theorem dX12_docLine_59 : decode cX12_docLine 59 = .ok (.getfield 129, 3) := by decide +kernel
theorem dX12_docLine_62 : decode cX12_docLine 62 = .ok (.if_icmp .ge 25, 3) := by decide +kernel
theorem dX12_docLine_65 : decode cX12_docLine 65 = .ok (.aload_n 0, 1) := by decide +kernel
theorem dX12_docLine_66 : decode cX12_docLine 66 = .ok (.iload_n 2, 1) := by decide +kernel
theorem dX12_docLine_67 : decode cX12_docLine 67 = .ok (.aload_n 0, 1) := by decide +kernel
theorem dX12_docLine_68 : decode cX12_docLine 68 = .ok (.iload_n 2, 1) := by decide +kernel
theorem dX12_docLine_69 : decode cX12_docLine 69 = .ok (.aload_n 0, 1) := by decide +kernel
theorem dX12_docLine_70 : decode cX12_docLine 70 = .ok (.getfield 41, 3) := by decide +kernel
theorem dX12_docLine_73 : decode cX12_docLine 73 = .ok (.iload_n 3, 1) := by decide +kernel
theorem dX12_docLine_74 : decode cX12_docLine 74 = .ok (.iaload, 1) := by decide +kernel
theorem dX12_docLine_75 : decode cX12_docLine 75 = .ok (.invokevirtual 159, 3) := by decide +kernel
theorem dX12_docLine_78 : decode cX12_docLine 78 = .ok (.invokevirtual 162, 3) := by decide +kernel
theorem dX12_docLine_81 : decode cX12_docLine 81 = .ok (.iinc 3 1, 3) := by decide +kernel
theorem dX12_docLine_84 : decode cX12_docLine 84 = .ok (.goto (-27), 3) := by decide +kernel
theorem dX12_docLine_87 : decode cX12_docLine 87 = .ok (.iconst 1, 1) := by decide +kernel
theorem dX12_docLine_88 : decode cX12_docLine 88 = .ok (.ireturn, 1) := by decide +kernel
theorem dX12_changeBy_0 : decode cX12_changeBy 0 = .ok (.lload_n 1, 1) := by decide +kernel
theorem dX12_changeBy_1 : decode cX12_changeBy 1 = .ok (.ldc2_w 165, 3) := by decide +kernel
theorem dX12_changeBy_4 : decode cX12_changeBy 4 = .ok (.lcmp, 1) := by decide +kernel
theorem dX12_changeBy_5 : decode cX12_changeBy 5 = .ok (.ifCond .ne 7, 3) := by decide +kernel
theorem dX12_changeBy_8 : decode cX12_changeBy 8 = .ok (.iconst 0, 1) := by decide +kernel
theorem dX12_changeBy_9 : decode cX12_changeBy 9 = .ok (.goto 40, 3) := by decide +kernel
theorem dX12_changeBy_12 : decode cX12_changeBy 12 = .ok (.lload_n 1, 1) := by decide +kernel
theorem dX12_changeBy_13 : decode cX12_changeBy 13 = .ok (.ldc2_w 167, 3) := by decide +kernel
theorem dX12_changeBy_16 : decode cX12_changeBy 16 = .ok (.lcmp, 1) := by decide +kernel
theorem dX12_changeBy_17 : decode cX12_changeBy 17 = .ok (.ifCond .ne 7, 3) := by decide +kernel
theorem dX12_changeBy_20 : decode cX12_changeBy 20 = .ok (.iconst 1, 1) := by decide +kernel
theorem dX12_changeBy_21 : decode cX12_changeBy 21 = .ok (.goto 28, 3) := by decide +kernel
theorem dX12_changeBy_24 : decode cX12_changeBy 24 = .ok (.lload_n 1, 1) := by decide +kernel
theorem dX12_changeBy_25 : decode cX12_changeBy 25 = .ok (.ldc2_w 169, 3) := by decide +kernel
theorem dX12_changeBy_28 : decode cX12_changeBy 28 = .ok (.lcmp, 1) := by decide +kernel
theorem dX12_changeBy_29 : decode cX12_changeBy 29 = .ok (.ifCond .ne 7, 3) := by decide +kernel
theorem dX12_changeBy_32 : decode cX12_changeBy 32 = .ok (.iconst 2, 1) := by decide +kernel
theorem dX12_changeBy_33 : decode cX12_changeBy 33 = .ok (.goto 16, 3) := by decide +kernel
theorem dX12_changeBy_36 : decode cX12_changeBy 36 = .ok (.lload_n 1, 1) := by decide +kernel
theorem dX12_changeBy_37 : decode cX12_changeBy 37 = .ok (.ldc2_w 171, 3) := by decide +kernel
theorem dX12_changeBy_40 : decode cX12_changeBy 40 = .ok (.lcmp, 1) := by decide +kernel
theorem dX12_changeBy_41 : decode cX12_changeBy 41 = .ok (.ifCond .ne 7, 3) := by decide +kernel
theorem dX12_changeBy_44 : decode cX12_changeBy 44 = .ok (.iconst 3, 1) := by decide +kernel
theorem dX12_changeBy_45 : decode cX12_changeBy 45 = .ok (.goto 4, 3) := by decide +kernel
theorem dX12_changeBy_48 : decode cX12_changeBy 48 = .ok (.iconst (-1), 1) := by decide +kernel
theorem dX12_changeBy_49 : decode cX12_changeBy 49 = .ok (.ireturn, 1) := by decide +kernel
theorem dX12_isThere_0 : decode cX12_isThere 0 = .ok (.aload_n 0, 1) := by decide +kernel
theorem dX12_isThere_1 : decode cX12_isThere 1 = .ok (.getfield 35, 3) := by decide +kernel
theorem dX12_isThere_4 : decode cX12_isThere 4 = .ok (.bipush 46, 2) := by decide +kernel
theorem dX12_isThere_6 : decode cX12_isThere 6 = .ok (.aload_n 0, 1) := by decide +kernel
theorem dX12_isThere_7 : decode cX12_isThere 7 = .ok (.aload_n 0, 1) := by decide +kernel
theorem dX12_isThere_8 : decode cX12_isThere 8 = .ok (.getfield 38, 3) := by decide +kernel
theorem dX12_isThere_11 : decode cX12_isThere 11 = .ok (.iconst 0, 1) := by decide +kernel
theorem dX12_isThere_12 : decode cX12_isThere 12 = .ok (.iaload, 1) := by decide +kernel
theorem dX12_isThere_13 : decode cX12_isThere 13 = .ok (.invokevirtual 139, 3) := by decide +kernel
theorem dX12_isThere_16 : decode cX12_isThere 16 = .ok (.iadd, 1) := by decide +kernel
theorem dX12_isThere_17 : decode cX12_isThere 17 = .ok (.iaload, 1) := by decide +kernel
theorem dX12_isThere_18 : decode cX12_isThere 18 = .ok (.istore_n 2, 1) := by decide +kernel
theorem dX12_isThere_19 : decode cX12_isThere 19 = .ok (.iload_n 1, 1) := by decide +kernel
theorem dX12_isThere_20 : decode cX12_isThere 20 = .ok (.tableswitch 93 0 2 #[28, 44, 67], 28) := by decide +kernel
theorem dX12_isThere_48 : decode cX12_isThere 48 = .ok (.aload_n 0, 1) := by decide +kernel
theorem dX12_isThere_49 : decode cX12_isThere 49 = .ok (.getfield 38, 3) := by decide +kernel
theorem dX12_isThere_52 : decode cX12_isThere 52 = .ok (.iconst 1, 1) := by decide +kernel
theorem dX12_isThere_53 : decode cX12_isThere 53 = .ok (.iaload, 1) := by decide +kernel
theorem dX12_isThere_54 : decode cX12_isThere 54 = .ok (.iload_n 2, 1) := by decide +kernel
theorem dX12_isThere_55 : decode cX12_isThere 55 = .ok (.if_icmp .gt 7, 3) := by decide +kernel
theorem dX12_isThere_58 : decode cX12_isThere 58 = .ok (.iconst 1, 1) := by decide +kernel
theorem dX12_isThere_59 : decode cX12_isThere 59 = .ok (.goto 4, 3) := by decide +kernel
theorem dX12_isThere_62 : decode cX12_isThere 62 = .ok (.iconst 0, 1) := by decide +kernel
theorem dX12_isThere_63 : decode cX12_isThere 63 = .ok (.ireturn, 1) := by decide +kernel
theorem dX12_isThere_64 : decode cX12_isThere 64 = .ok (.aload_n 0, 1) := by decide +kernel
theorem dX12_isThere_65 : decode cX12_isThere 65 = .ok (.getfield 38, 3) := by decide +kernel
theorem dX12_isThere_68 : decode cX12_isThere 68 = .ok (.iconst 1, 1) := by decide +kernel
theorem dX12_isThere_69 : decode cX12_isThere 69 = .ok (.iaload, 1) := by decide +kernel
theorem dX12_isThere_70 : decode cX12_isThere 70 = .ok (.aload_n 0, 1) := by decide +kernel
theorem dX12_isThere_71 : decode cX12_isThere 71 = .ok (.getfield 38, 3) := by decide +kernel
theorem dX12_isThere_74 : decode cX12_isThere 74 = .ok (.iconst 2, 1) := by decide +kernel
theorem dX12_isThere_75 : decode cX12_isThere 75 = .ok (.iaload, 1) := by decide +kernel
theorem dX12_isThere_76 : decode cX12_isThere 76 = .ok (.iadd, 1) := by decide +kernel
theorem dX12_isThere_77 : decode cX12_isThere 77 = .ok (.iload_n 2, 1) := by decide +kernel
theorem dX12_isThere_78 : decode cX12_isThere 78 = .ok (.if_icmp .gt 7, 3) := by decide +kernel
theorem dX12_isThere_81 : decode cX12_isThere 81 = .ok (.iconst 1, 1) := by decide +kernel
theorem dX12_isThere_82 : decode cX12_isThere 82 = .ok (.goto 4, 3) := by decide +kernel
theorem dX12_isThere_85 : decode cX12_isThere 85 = .ok (.iconst 0, 1) := by decide +kernel
theorem dX12_isThere_86 : decode cX12_isThere 86 = .ok (.ireturn, 1) := by decide +kernel
theorem dX12_isThere_87 : decode cX12_isThere 87 = .ok (.aload_n 0, 1) := by decide +kernel
theorem dX12_isThere_88 : decode cX12_isThere 88 = .ok (.getfield 38, 3) := by decide +kernel
theorem dX12_isThere_91 : decode cX12_isThere 91 = .ok (.iconst 1, 1) := by decide +kernel
theorem dX12_isThere_92 : decode cX12_isThere 92 = .ok (.iaload, 1) := by decide +kernel
theorem dX12_isThere_93 : decode cX12_isThere 93 = .ok (.iload_n 2, 1) := by decide +kernel
theorem dX12_isThere_94 : decode cX12_isThere 94 = .ok (.if_icmp .ge 17, 3) := by decide +kernel
theorem dX12_isThere_97 : decode cX12_isThere 97 = .ok (.aload_n 0, 1) := by decide +kernel
theorem dX12_isThere_98 : decode cX12_isThere 98 = .ok (.getfield 38, 3) := by decide +kernel
theorem dX12_isThere_101 : decode cX12_isThere 101 = .ok (.iconst 2, 1) := by decide +kernel
theorem dX12_isThere_102 : decode cX12_isThere 102 = .ok (.iaload, 1) := by decide +kernel
theorem dX12_isThere_103 : decode cX12_isThere 103 = .ok (.iload_n 2, 1) := by decide +kernel
theorem dX12_isThere_104 : decode cX12_isThere 104 = .ok (.if_icmp .ge 7, 3) := by decide +kernel
theorem dX12_isThere_107 : decode cX12_isThere 107 = .ok (.iconst 1, 1) := by decide +kernel
theorem dX12_isThere_108 : decode cX12_isThere 108 = .ok (.goto 4, 3) := by decide +kernel
theorem dX12_isThere_111 : decode cX12_isThere 111 = .ok (.iconst 0, 1) := by decide +kernel
theorem dX12_isThere_112 : decode cX12_isThere 112 = .ok (.ireturn, 1) := by decide +kernel
theorem dX12_isThere_113 : decode cX12_isThere 113 = .ok (.aload_n 0, 1) := by decide +kernel
theorem dX12_isThere_114 : decode cX12_isThere 114 = .ok (.getfield 38, 3) := by decide +kernel
theorem dX12_isThere_117 : decode cX12_isThere 117 = .ok (.iconst 1, 1) := by decide +kernel
theorem dX12_isThere_118 : decode cX12_isThere 118 = .ok (.iaload, 1) := by decide +kernel
theorem dX12_isThere_119 : decode cX12_isThere 119 = .ok (.aload_n 0, 1) := by decide +kernel
theorem dX12_isThere_120 : decode cX12_isThere 120 = .ok (.getfield 35, 3) := by decide +kernel
theorem dX12_isThere_123 : decode cX12_isThere 123 = .ok (.iconst 1, 1) := by decide +kernel
theorem dX12_isThere_124 : decode cX12_isThere 124 = .ok (.aload_n 0, 1) := by decide +kernel
theorem dX12_isThere_125 : decode cX12_isThere 125 = .ok (.getfield 38, 3) := by decide +kernel
theorem dX12_isThere_128 : decode cX12_isThere 128 = .ok (.iconst 0, 1) := by decide +kernel
theorem dX12_isThere_129 : decode cX12_isThere 129 = .ok (.iaload, 1) := by decide +kernel
theorem dX12_isThere_130 : decode cX12_isThere 130 = .ok (.iadd, 1) := by decide +kernel
theorem dX12_isThere_131 : decode cX12_isThere 131 = .ok (.iaload, 1) := by decide +kernel
theorem dX12_isThere_132 : decode cX12_isThere 132 = .ok (.if_icmp .ge 7, 3) := by decide +kernel
theorem dX12_isThere_135 : decode cX12_isThere 135 = .ok (.iconst 1, 1) := by decide +kernel
theorem dX12_isThere_136 : decode cX12_isThere 136 = .ok (.goto 4, 3) := by decide +kernel
theorem dX12_isThere_139 : decode cX12_isThere 139 = .ok (.iconst 0, 1) := by decide +kernel
theorem dX12_isThere_140 : decode cX12_isThere 140 = .ok (.ireturn, 1) := by decide +kernel
theorem dX12_makeVersion_0 : decode cX12_makeVersion 0 = .ok (.aload_n 0, 1) := by decide +kernel
theorem dX12_makeVersion_1 : decode cX12_makeVersion 1 = .ok (.getfield 38, 3) := by decide +kernel
theorem dX12_makeVersion_4 : decode cX12_makeVersion 4 = .ok (.iconst 0, 1) := by decide +kernel
theorem dX12_makeVersion_5 : decode cX12_makeVersion 5 = .ok (.iaload, 1) := by decide +kernel
theorem dX12_makeVersion_6 : decode cX12_makeVersion 6 = .ok (.istore_n 2, 1) := by decide +kernel
theorem dX12_makeVersion_7 : decode cX12_makeVersion 7 = .ok (.iload_n 1, 1) := by decide +kernel
theorem dX12_makeVersion_8 : decode cX12_makeVersion 8 = .ok (.iconst 3, 1) := by decide +kernel
theorem dX12_makeVersion_9 : decode cX12_makeVersion 9 = .ok (.if_icmp .ne 16, 3) := by decide +kernel
theorem dX12_makeVersion_12 : decode cX12_makeVersion 12 = .ok (.iload_n 2, 1) := by decide +kernel
theorem dX12_makeVersion_13 : decode cX12_makeVersion 13 = .ok (.aload_n 0, 1) := by decide +kernel
theorem dX12_makeVersion_14 : decode cX12_makeVersion 14 = .ok (.getfield 38, 3) := by decide +kernel
theorem dX12_makeVersion_17 : decode cX12_makeVersion 17 = .ok (.iconst 1, 1) := by decide +kernel
theorem dX12_makeVersion_18 : decode cX12_makeVersion 18 = .ok (.iaload, 1) := by decide +kernel
theorem dX12_makeVersion_19 : decode cX12_makeVersion 19 = .ok (.invokestatic 146, 3) := by decide +kernel
theorem dX12_makeVersion_22 : decode cX12_makeVersion 22 = .ok (.goto 8, 3) := by decide +kernel
theorem dX12_makeVersion_25 : decode cX12_makeVersion 25 = .ok (.aload_n 0, 1) := by decide +kernel
theorem dX12_makeVersion_26 : decode cX12_makeVersion 26 = .ok (.iload_n 2, 1) := by decide +kernel
theorem dX12_makeVersion_27 : decode cX12_makeVersion 27 = .ok (.invokevirtual 139, 3) := by decide +kernel
theorem dX12_makeVersion_30 : decode cX12_makeVersion 30 = .ok (.istore_n 3, 1) := by decide +kernel
theorem dX12_makeVersion_31 : decode cX12_makeVersion 31 = .ok (.aload_n 0, 1) := by decide +kernel
theorem dX12_makeVersion_32 : decode cX12_makeVersion 32 = .ok (.getfield 35, 3) := by decide +kernel
theorem dX12_makeVersion_35 : decode cX12_makeVersion 35 = .ok (.bipush 46, 2) := by decide +kernel
theorem dX12_makeVersion_37 : decode cX12_makeVersion 37 = .ok (.iload_n 3, 1) := by decide +kernel
theorem dX12_makeVersion_38 : decode cX12_makeVersion 38 = .ok (.iadd, 1) := by decide +kernel
theorem dX12_makeVersion_39 : decode cX12_makeVersion 39 = .ok (.iaload, 1) := by decide +kernel
theorem dX12_makeVersion_40 : decode cX12_makeVersion 40 = .ok (.istore 4, 2) := by decide +kernel
theorem dX12_makeVersion_42 : decode cX12_makeVersion 42 = .ok (.aload_n 0, 1) := by decide +kernel
theorem dX12_makeVersion_43 : decode cX12_makeVersion 43 = .ok (.iload_n 2, 1) := by decide +kernel
theorem dX12_makeVersion_44 : decode cX12_makeVersion 44 = .ok (.invokevirtual 156, 3) := by decide +kernel
theorem dX12_makeVersion_47 : decode cX12_makeVersion 47 = .ok (.iload_n 1, 1) := by decide +kernel
theorem dX12_makeVersion_48 : decode cX12_makeVersion 48 = .ok (.iconst 2, 1) := by decide +kernel
theorem dX12_makeVersion_49 : decode cX12_makeVersion 49 = .ok (.if_icmp .ne 12, 3) := by decide +kernel
theorem dX12_makeVersion_52 : decode cX12_makeVersion 52 = .ok (.aload_n 0, 1) := by decide +kernel
theorem dX12_makeVersion_53 : decode cX12_makeVersion 53 = .ok (.iload_n 2, 1) := by decide +kernel
theorem dX12_makeVersion_54 : decode cX12_makeVersion 54 = .ok (.iload_n 3, 1) := by decide +kernel
theorem dX12_makeVersion_55 : decode cX12_makeVersion 55 = .ok (.iload 4, 2) := by decide +kernel
theorem dX12_makeVersion_57 : decode cX12_makeVersion 57 = .ok (.invokevirtual 173, 3) := by decide +kernel
theorem dX12_makeVersion_60 : decode cX12_makeVersion 60 = .ok (.return_, 1) := by decide +kernel
theorem dX12_makeVersion_61 : decode cX12_makeVersion 61 = .ok (.iconst 0, 1) := by decide +kernel
theorem dX12_makeVersion_62 : decode cX12_makeVersion 62 = .ok (.istore 5, 2) := by decide +kernel
theorem dX12_makeVersion_64 : decode cX12_makeVersion 64 = .ok (.iload 5, 2) := by decide +kernel
theorem dX12_makeVersion_66 : decode cX12_makeVersion 66 = .ok (.iload 4, 2) := by decide +kernel
theorem dX12_makeVersion_68 : decode cX12_makeVersion 68 = .ok (.if_icmp .gt 132, 3) := by decide +kernel
theorem dX12_makeVersion_71 : decode cX12_makeVersion 71 = .ok (.iconst 0, 1) := by decide +kernel
theorem dX12_makeVersion_72 : decode cX12_makeVersion 72 = .ok (.istore 6, 2) := by decide +kernel
theorem dX12_makeVersion_74 : decode cX12_makeVersion 74 = .ok (.iload 6, 2) := by decide +kernel
theorem dX12_makeVersion_76 : decode cX12_makeVersion 76 = .ok (.aload_n 0, 1) := by decide +kernel
theorem dX12_makeVersion_77 : decode cX12_makeVersion 77 = .ok (.getfield 129, 3) := by decide +kernel
theorem dX12_makeVersion_80 : decode cX12_makeVersion 80 = .ok (.if_icmp .ge 41, 3) := by decide +kernel
theorem dX12_makeVersion_83 : decode cX12_makeVersion 83 = .ok (.iload_n 1, 1) := by decide +kernel
theorem dX12_makeVersion_84 : decode cX12_makeVersion 84 = .ok (.ifCond .ne 37, 3) := by decide +kernel
theorem dX12_makeVersion_87 : decode cX12_makeVersion 87 = .ok (.iload 5, 2) := by decide +kernel
theorem dX12_makeVersion_89 : decode cX12_makeVersion 89 = .ok (.aload_n 0, 1) := by decide +kernel
theorem dX12_makeVersion_90 : decode cX12_makeVersion 90 = .ok (.getfield 38, 3) := by decide +kernel
theorem dX12_makeVersion_93 : decode cX12_makeVersion 93 = .ok (.iconst 1, 1) := by decide +kernel
theorem dX12_makeVersion_94 : decode cX12_makeVersion 94 = .ok (.iaload, 1) := by decide +kernel
theorem dX12_makeVersion_95 : decode cX12_makeVersion 95 = .ok (.if_icmp .ne 26, 3) := by decide +kernel
theorem dX12_makeVersion_98 : decode cX12_makeVersion 98 = .ok (.aload_n 0, 1) := by decide +kernel
theorem dX12_makeVersion_99 : decode cX12_makeVersion 99 = .ok (.iload_n 2, 1) := by decide +kernel
theorem dX12_makeVersion_100 : decode cX12_makeVersion 100 = .ok (.aload_n 0, 1) := by decide +kernel
theorem dX12_makeVersion_101 : decode cX12_makeVersion 101 = .ok (.iload_n 2, 1) := by decide +kernel
theorem dX12_makeVersion_102 : decode cX12_makeVersion 102 = .ok (.aload_n 0, 1) := by decide +kernel
theorem dX12_makeVersion_103 : decode cX12_makeVersion 103 = .ok (.getfield 41, 3) := by decide +kernel
theorem dX12_makeVersion_106 : decode cX12_makeVersion 106 = .ok (.iload 6, 2) := by decide +kernel
theorem dX12_makeVersion_108 : decode cX12_makeVersion 108 = .ok (.iaload, 1) := by decide +kernel
theorem dX12_makeVersion_109 : decode cX12_makeVersion 109 = .ok (.invokevirtual 159, 3) := by decide +kernel
theorem dX12_makeVersion_112 : decode cX12_makeVersion 112 = .ok (.invokevirtual 162, 3) := by decide +kernel
theorem dX12_makeVersion_115 : decode cX12_makeVersion 115 = .ok (.iinc 6 1, 3) := by decide +kernel
theorem dX12_makeVersion_118 : decode cX12_makeVersion 118 = .ok (.goto (-44), 3) := by decide +kernel
theorem dX12_makeVersion_121 : decode cX12_makeVersion 121 = .ok (.iload_n 1, 1) := by decide +kernel
theorem dX12_makeVersion_122 : decode cX12_makeVersion 122 = .ok (.iconst 1, 1) := by decide +kernel
theorem dX12_makeVersion_123 : decode cX12_makeVersion 123 = .ok (.if_icmp .ne 36, 3) := by decide +kernel
theorem dX12_makeVersion_126 : decode cX12_makeVersion 126 = .ok (.iload 5, 2) := by decide +kernel
theorem dX12_makeVersion_128 : decode cX12_makeVersion 128 = .ok (.aload_n 0, 1) := by decide +kernel
theorem dX12_makeVersion_129 : decode cX12_makeVersion 129 = .ok (.getfield 38, 3) := by decide +kernel
theorem dX12_makeVersion_132 : decode cX12_makeVersion 132 = .ok (.iconst 1, 1) := by decide +kernel
theorem dX12_makeVersion_133 : decode cX12_makeVersion 133 = .ok (.iaload, 1) := by decide +kernel
theorem dX12_makeVersion_134 : decode cX12_makeVersion 134 = .ok (.aload_n 0, 1) := by decide +kernel
theorem dX12_makeVersion_135 : decode cX12_makeVersion 135 = .ok (.getfield 38, 3) := by decide +kernel
theorem dX12_makeVersion_138 : decode cX12_makeVersion 138 = .ok (.iconst 1, 1) := by decide +kernel
theorem dX12_makeVersion_139 : decode cX12_makeVersion 139 = .ok (.iaload, 1) := by decide +kernel
theorem dX12_makeVersion_140 : decode cX12_makeVersion 140 = .ok (.aload_n 0, 1) := by decide +kernel
theorem dX12_makeVersion_141 : decode cX12_makeVersion 141 = .ok (.getfield 38, 3) := by decide +kernel
theorem dX12_makeVersion_144 : decode cX12_makeVersion 144 = .ok (.iconst 2, 1) := by decide +kernel
theorem dX12_makeVersion_145 : decode cX12_makeVersion 145 = .ok (.iaload, 1) := by decide +kernel
theorem dX12_makeVersion_146 : decode cX12_makeVersion 146 = .ok (.iadd, 1) := by decide +kernel
theorem dX12_makeVersion_147 : decode cX12_makeVersion 147 = .ok (.iconst 1, 1) := by decide +kernel
theorem dX12_makeVersion_148 : decode cX12_makeVersion 148 = .ok (.isub, 1) := by decide +kernel
theorem dX12_makeVersion_149 : decode cX12_makeVersion 149 = .ok (.invokestatic 72, 3) := by decide +kernel
theorem dX12_makeVersion_152 : decode cX12_makeVersion 152 = .ok (.ifCond .eq 7, 3) := by decide +kernel
theorem dX12_makeVersion_155 : decode cX12_makeVersion 155 = .ok (.iconst 1, 1) := by decide +kernel
theorem dX12_makeVersion_156 : decode cX12_makeVersion 156 = .ok (.goto 4, 3) := by decide +kernel
theorem dX12_makeVersion_159 : decode cX12_makeVersion 159 = .ok (.iconst 0, 1) := by decide +kernel
theorem dX12_makeVersion_160 : decode cX12_makeVersion 160 = .ok (.istore 6, 2) := by decide +kernel
theorem dX12_makeVersion_162 : decode cX12_makeVersion 162 = .ok (.iload 5, 2) := by decide +kernel
theorem dX12_makeVersion_164 : decode cX12_makeVersion 164 = .ok (.iload 4, 2) := by decide +kernel
theorem dX12_makeVersion_166 : decode cX12_makeVersion 166 = .ok (.if_icmp .ge 28, 3) := by decide +kernel
theorem dX12_makeVersion_169 : decode cX12_makeVersion 169 = .ok (.iload 6, 2) := by decide +kernel
theorem dX12_makeVersion_171 : decode cX12_makeVersion 171 = .ok (.ifCond .ne 23, 3) := by decide +kernel
theorem dX12_makeVersion_174 : decode cX12_makeVersion 174 = .ok (.aload_n 0, 1) := by decide +kernel
theorem dX12_makeVersion_175 : decode cX12_makeVersion 175 = .ok (.iload_n 2, 1) := by decide +kernel
theorem dX12_makeVersion_176 : decode cX12_makeVersion 176 = .ok (.aload_n 0, 1) := by decide +kernel
theorem dX12_makeVersion_177 : decode cX12_makeVersion 177 = .ok (.getfield 35, 3) := by decide +kernel
theorem dX12_makeVersion_180 : decode cX12_makeVersion 180 = .ok (.bipush 86, 2) := by decide +kernel
theorem dX12_makeVersion_182 : decode cX12_makeVersion 182 = .ok (.bipush 20, 2) := by decide +kernel
theorem dX12_makeVersion_184 : decode cX12_makeVersion 184 = .ok (.iload_n 3, 1) := by decide +kernel
theorem dX12_makeVersion_185 : decode cX12_makeVersion 185 = .ok (.imul, 1) := by decide +kernel
theorem dX12_makeVersion_186 : decode cX12_makeVersion 186 = .ok (.iadd, 1) := by decide +kernel
theorem dX12_makeVersion_187 : decode cX12_makeVersion 187 = .ok (.iload 5, 2) := by decide +kernel
theorem dX12_makeVersion_189 : decode cX12_makeVersion 189 = .ok (.iadd, 1) := by decide +kernel
theorem dX12_makeVersion_190 : decode cX12_makeVersion 190 = .ok (.iaload, 1) := by decide +kernel
theorem dX12_makeVersion_191 : decode cX12_makeVersion 191 = .ok (.invokevirtual 162, 3) := by decide +kernel
theorem dX12_makeVersion_194 : decode cX12_makeVersion 194 = .ok (.iinc 5 1, 3) := by decide +kernel
theorem dX12_makeVersion_197 : decode cX12_makeVersion 197 = .ok (.goto (-133), 3) := by decide +kernel
theorem dX12_makeVersion_200 : decode cX12_makeVersion 200 = .ok (.return_, 1) := by decide +kernel
theorem dX12_moves_0 : decode cX12_moves 0 = .ok (.iconst 0, 1) := by decide +kernel
theorem dX12_moves_1 : decode cX12_moves 1 = .ok (.istore 4, 2) := by decide +kernel
theorem dX12_moves_3 : decode cX12_moves 3 = .ok (.iconst 0, 1) := by decide +kernel
theorem dX12_moves_4 : decode cX12_moves 4 = .ok (.istore 5, 2) := by decide +kernel
theorem dX12_moves_6 : decode cX12_moves 6 = .ok (.iload 5, 2) := by decide +kernel
theorem dX12_moves_8 : decode cX12_moves 8 = .ok (.iload_n 3, 1) := by decide +kernel
theorem dX12_moves_9 : decode cX12_moves 9 = .ok (.if_icmp .ge 91, 3) := by decide +kernel
theorem dX12_moves_12 : decode cX12_moves 12 = .ok (.iload 4, 2) := by decide +kernel
theorem dX12_moves_14 : decode cX12_moves 14 = .ok (.iload 4, 2) := by decide +kernel
theorem dX12_moves_16 : decode cX12_moves 16 = .ok (.aload_n 0, 1) := by decide +kernel
theorem dX12_moves_17 : decode cX12_moves 17 = .ok (.getfield 38, 3) := by decide +kernel
theorem dX12_moves_20 : decode cX12_moves 20 = .ok (.iconst 1, 1) := by decide +kernel
theorem dX12_moves_21 : decode cX12_moves 21 = .ok (.iaload, 1) := by decide +kernel
theorem dX12_moves_22 : decode cX12_moves 22 = .ok (.if_icmp .ne 7, 3) := by decide +kernel
theorem dX12_moves_25 : decode cX12_moves 25 = .ok (.iconst 1, 1) := by decide +kernel
theorem dX12_moves_26 : decode cX12_moves 26 = .ok (.goto 4, 3) := by decide +kernel
theorem dX12_moves_29 : decode cX12_moves 29 = .ok (.iconst 0, 1) := by decide +kernel
theorem dX12_moves_30 : decode cX12_moves 30 = .ok (.iadd, 1) := by decide +kernel
theorem dX12_moves_31 : decode cX12_moves 31 = .ok (.istore 4, 2) := by decide +kernel
theorem dX12_moves_33 : decode cX12_moves 33 = .ok (.iload 5, 2) := by decide +kernel
theorem dX12_moves_35 : decode cX12_moves 35 = .ok (.aload_n 0, 1) := by decide +kernel
theorem dX12_moves_36 : decode cX12_moves 36 = .ok (.getfield 38, 3) := by decide +kernel
theorem dX12_moves_39 : decode cX12_moves 39 = .ok (.iconst 2, 1) := by decide +kernel
theorem dX12_moves_40 : decode cX12_moves 40 = .ok (.iaload, 1) := by decide +kernel
theorem dX12_moves_41 : decode cX12_moves 41 = .ok (.if_icmp .ne 30, 3) := by decide +kernel
theorem dX12_moves_44 : decode cX12_moves 44 = .ok (.aload_n 0, 1) := by decide +kernel
theorem dX12_moves_45 : decode cX12_moves 45 = .ok (.iload_n 1, 1) := by decide +kernel
theorem dX12_moves_46 : decode cX12_moves 46 = .ok (.aload_n 0, 1) := by decide +kernel
theorem dX12_moves_47 : decode cX12_moves 47 = .ok (.getfield 35, 3) := by decide +kernel
theorem dX12_moves_50 : decode cX12_moves 50 = .ok (.bipush 86, 2) := by decide +kernel
theorem dX12_moves_52 : decode cX12_moves 52 = .ok (.bipush 20, 2) := by decide +kernel
theorem dX12_moves_54 : decode cX12_moves 54 = .ok (.iload_n 2, 1) := by decide +kernel
theorem dX12_moves_55 : decode cX12_moves 55 = .ok (.imul, 1) := by decide +kernel
theorem dX12_moves_56 : decode cX12_moves 56 = .ok (.iadd, 1) := by decide +kernel
theorem dX12_moves_57 : decode cX12_moves 57 = .ok (.aload_n 0, 1) := by decide +kernel
theorem dX12_moves_58 : decode cX12_moves 58 = .ok (.getfield 38, 3) := by decide +kernel
theorem dX12_moves_61 : decode cX12_moves 61 = .ok (.iconst 1, 1) := by decide +kernel
theorem dX12_moves_62 : decode cX12_moves 62 = .ok (.iaload, 1) := by decide +kernel
theorem dX12_moves_63 : decode cX12_moves 63 = .ok (.iadd, 1) := by decide +kernel
theorem dX12_moves_64 : decode cX12_moves 64 = .ok (.iaload, 1) := by decide +kernel
theorem dX12_moves_65 : decode cX12_moves 65 = .ok (.invokevirtual 162, 3) := by decide +kernel
theorem dX12_moves_68 : decode cX12_moves 68 = .ok (.goto 26, 3) := by decide +kernel
theorem dX12_moves_71 : decode cX12_moves 71 = .ok (.aload_n 0, 1) := by decide +kernel
theorem dX12_moves_72 : decode cX12_moves 72 = .ok (.iload_n 1, 1) := by decide +kernel
theorem dX12_moves_73 : decode cX12_moves 73 = .ok (.aload_n 0, 1) := by decide +kernel
theorem dX12_moves_74 : decode cX12_moves 74 = .ok (.getfield 35, 3) := by decide +kernel
theorem dX12_moves_77 : decode cX12_moves 77 = .ok (.bipush 86, 2) := by decide +kernel
theorem dX12_moves_79 : decode cX12_moves 79 = .ok (.bipush 20, 2) := by decide +kernel
theorem dX12_moves_81 : decode cX12_moves 81 = .ok (.iload_n 2, 1) := by decide +kernel
theorem dX12_moves_82 : decode cX12_moves 82 = .ok (.imul, 1) := by decide +kernel
theorem dX12_moves_83 : decode cX12_moves 83 = .ok (.iadd, 1) := by decide +kernel
theorem dX12_moves_84 : decode cX12_moves 84 = .ok (.iload 4, 2) := by decide +kernel
theorem dX12_moves_86 : decode cX12_moves 86 = .ok (.iadd, 1) := by decide +kernel
theorem dX12_moves_87 : decode cX12_moves 87 = .ok (.iaload, 1) := by decide +kernel
theorem dX12_moves_88 : decode cX12_moves 88 = .ok (.invokevirtual 162, 3) := by decide +kernel
theorem dX12_moves_91 : decode cX12_moves 91 = .ok (.iinc 4 1, 3) := by decide +kernel
theorem dX12_moves_94 : decode cX12_moves 94 = .ok (.iinc 5 1, 3) := by decide +kernel
theorem dX12_moves_97 : decode cX12_moves 97 = .ok (.goto (-91), 3) := by decide +kernel
theorem dX12_moves_100 : decode cX12_moves 100 = .ok (.return_, 1) := by decide +kernel
theorem dX12_readPut_0 : decode cX12_readPut 0 = .ok (.aload_n 0, 1) := by decide +kernel
theorem dX12_readPut_1 : decode cX12_readPut 1 = .ok (.iconst 1, 1) := by decide +kernel
theorem dX12_readPut_2 : decode cX12_readPut 2 = .ok (.iconst 0, 1) := by decide +kernel
theorem dX12_readPut_3 : decode cX12_readPut 3 = .ok (.bipush 20, 2) := by decide +kernel
theorem dX12_readPut_5 : decode cX12_readPut 5 = .ok (.invokevirtual 177, 3) := by decide +kernel
theorem dX12_readPut_8 : decode cX12_readPut 8 = .ok (.ifCond .ne 5, 3) := by decide +kernel
theorem dX12_readPut_11 : decode cX12_readPut 11 = .ok (.iconst 0, 1) := by decide +kernel
theorem dX12_readPut_12 : decode cX12_readPut 12 = .ok (.ireturn, 1) := by decide +kernel
theorem dX12_readPut_13 : decode cX12_readPut 13 = .ok (.aload_n 0, 1) := by decide +kernel
theorem dX12_readPut_14 : decode cX12_readPut 14 = .ok (.getfield 120, 3) := by decide +kernel
theorem dX12_readPut_17 : decode cX12_readPut 17 = .ok (.ifCond .eq 39, 3) := by decide +kernel
theorem dX12_readPut_20 : decode cX12_readPut 20 = .ok (.aload_n 0, 1) := by decide +kernel
theorem dX12_readPut_21 : decode cX12_readPut 21 = .ok (.getfield 38, 3) := by decide +kernel
theorem dX12_readPut_24 : decode cX12_readPut 24 = .ok (.iconst 0, 1) := by decide +kernel
theorem dX12_readPut_25 : decode cX12_readPut 25 = .ok (.iaload, 1) := by decide +kernel
theorem dX12_readPut_26 : decode cX12_readPut 26 = .ok (.aload_n 0, 1) := by decide +kernel
theorem dX12_readPut_27 : decode cX12_readPut 27 = .ok (.getfield 35, 3) := by decide +kernel
theorem dX12_readPut_30 : decode cX12_readPut 30 = .ok (.iconst 0, 1) := by decide +kernel
theorem dX12_readPut_31 : decode cX12_readPut 31 = .ok (.iaload, 1) := by decide +kernel
theorem dX12_readPut_32 : decode cX12_readPut 32 = .ok (.if_icmp .ge 24, 3) := by decide +kernel
theorem dX12_readPut_35 : decode cX12_readPut 35 = .ok (.aload_n 0, 1) := by decide +kernel
theorem dX12_readPut_36 : decode cX12_readPut 36 = .ok (.getfield 35, 3) := by decide +kernel
theorem dX12_readPut_39 : decode cX12_readPut 39 = .ok (.bipush 46, 2) := by decide +kernel
theorem dX12_readPut_41 : decode cX12_readPut 41 = .ok (.aload_n 0, 1) := by decide +kernel
theorem dX12_readPut_42 : decode cX12_readPut 42 = .ok (.aload_n 0, 1) := by decide +kernel
theorem dX12_readPut_43 : decode cX12_readPut 43 = .ok (.getfield 38, 3) := by decide +kernel
theorem dX12_readPut_46 : decode cX12_readPut 46 = .ok (.iconst 0, 1) := by decide +kernel
theorem dX12_readPut_47 : decode cX12_readPut 47 = .ok (.iaload, 1) := by decide +kernel
theorem dX12_readPut_48 : decode cX12_readPut 48 = .ok (.invokevirtual 139, 3) := by decide +kernel
theorem dX12_readPut_51 : decode cX12_readPut 51 = .ok (.iadd, 1) := by decide +kernel
theorem dX12_readPut_52 : decode cX12_readPut 52 = .ok (.iaload, 1) := by decide +kernel
theorem dX12_readPut_53 : decode cX12_readPut 53 = .ok (.goto 4, 3) := by decide +kernel
theorem dX12_readPut_56 : decode cX12_readPut 56 = .ok (.iconst 0, 1) := by decide +kernel
theorem dX12_readPut_57 : decode cX12_readPut 57 = .ok (.istore_n 1, 1) := by decide +kernel
theorem dX12_readPut_58 : decode cX12_readPut 58 = .ok (.aload_n 0, 1) := by decide +kernel
theorem dX12_readPut_59 : decode cX12_readPut 59 = .ok (.bipush 20, 2) := by decide +kernel
theorem dX12_readPut_61 : decode cX12_readPut 61 = .ok (.iload_n 1, 1) := by decide +kernel
theorem dX12_readPut_62 : decode cX12_readPut 62 = .ok (.isub, 1) := by decide +kernel
theorem dX12_readPut_63 : decode cX12_readPut 63 = .ok (.invokevirtual 153, 3) := by decide +kernel
theorem dX12_readPut_66 : decode cX12_readPut 66 = .ok (.iconst 1, 1) := by decide +kernel
theorem dX12_readPut_67 : decode cX12_readPut 67 = .ok (.ireturn, 1) := by decide +kernel
theorem dX12_readChange_0 : decode cX12_readChange 0 = .ok (.aload_n 0, 1) := by decide +kernel
theorem dX12_readChange_1 : decode cX12_readChange 1 = .ok (.iconst 0, 1) := by decide +kernel
theorem dX12_readChange_2 : decode cX12_readChange 2 = .ok (.iconst 0, 1) := by decide +kernel
theorem dX12_readChange_3 : decode cX12_readChange 3 = .ok (.iconst 3, 1) := by decide +kernel
theorem dX12_readChange_4 : decode cX12_readChange 4 = .ok (.invokevirtual 177, 3) := by decide +kernel
theorem dX12_readChange_7 : decode cX12_readChange 7 = .ok (.ifCond .ne 5, 3) := by decide +kernel
theorem dX12_readChange_10 : decode cX12_readChange 10 = .ok (.iconst 0, 1) := by decide +kernel
theorem dX12_readChange_11 : decode cX12_readChange 11 = .ok (.ireturn, 1) := by decide +kernel
theorem dX12_readChange_12 : decode cX12_readChange 12 = .ok (.iload_n 1, 1) := by decide +kernel
theorem dX12_readChange_13 : decode cX12_readChange 13 = .ok (.tableswitch 88 0 2 #[27, 32, 60], 27) := by decide +kernel
theorem dX12_readChange_40 : decode cX12_readChange 40 = .ok (.aload_n 0, 1) := by decide +kernel
theorem dX12_readChange_41 : decode cX12_readChange 41 = .ok (.invokevirtual 180, 3) := by decide +kernel
theorem dX12_readChange_44 : decode cX12_readChange 44 = .ok (.ireturn, 1) := by decide +kernel
theorem dX12_readChange_45 : decode cX12_readChange 45 = .ok (.aload_n 0, 1) := by decide +kernel
theorem dX12_readChange_46 : decode cX12_readChange 46 = .ok (.iconst 1, 1) := by decide +kernel
theorem dX12_readChange_47 : decode cX12_readChange 47 = .ok (.iconst 0, 1) := by decide +kernel
theorem dX12_readChange_48 : decode cX12_readChange 48 = .ok (.bipush 19, 2) := by decide +kernel
theorem dX12_readChange_50 : decode cX12_readChange 50 = .ok (.invokevirtual 177, 3) := by decide +kernel
theorem dX12_readChange_53 : decode cX12_readChange 53 = .ok (.ifCond .eq 18, 3) := by decide +kernel
theorem dX12_readChange_56 : decode cX12_readChange 56 = .ok (.aload_n 0, 1) := by decide +kernel
theorem dX12_readChange_57 : decode cX12_readChange 57 = .ok (.iconst 2, 1) := by decide +kernel
theorem dX12_readChange_58 : decode cX12_readChange 58 = .ok (.iconst 1, 1) := by decide +kernel
theorem dX12_readChange_59 : decode cX12_readChange 59 = .ok (.bipush 20, 2) := by decide +kernel
theorem dX12_readChange_61 : decode cX12_readChange 61 = .ok (.invokevirtual 177, 3) := by decide +kernel
theorem dX12_readChange_64 : decode cX12_readChange 64 = .ok (.ifCond .eq 7, 3) := by decide +kernel
theorem dX12_readChange_67 : decode cX12_readChange 67 = .ok (.iconst 1, 1) := by decide +kernel
theorem dX12_readChange_68 : decode cX12_readChange 68 = .ok (.goto 4, 3) := by decide +kernel
theorem dX12_readChange_71 : decode cX12_readChange 71 = .ok (.iconst 0, 1) := by decide +kernel
theorem dX12_readChange_72 : decode cX12_readChange 72 = .ok (.ireturn, 1) := by decide +kernel
theorem dX12_readChange_73 : decode cX12_readChange 73 = .ok (.aload_n 0, 1) := by decide +kernel
theorem dX12_readChange_74 : decode cX12_readChange 74 = .ok (.iconst 1, 1) := by decide +kernel
theorem dX12_readChange_75 : decode cX12_readChange 75 = .ok (.iconst 0, 1) := by decide +kernel
theorem dX12_readChange_76 : decode cX12_readChange 76 = .ok (.bipush 19, 2) := by decide +kernel
theorem dX12_readChange_78 : decode cX12_readChange 78 = .ok (.invokevirtual 177, 3) := by decide +kernel
theorem dX12_readChange_81 : decode cX12_readChange 81 = .ok (.ifCond .eq 18, 3) := by decide +kernel
theorem dX12_readChange_84 : decode cX12_readChange 84 = .ok (.aload_n 0, 1) := by decide +kernel
theorem dX12_readChange_85 : decode cX12_readChange 85 = .ok (.iconst 2, 1) := by decide +kernel
theorem dX12_readChange_86 : decode cX12_readChange 86 = .ok (.iconst 0, 1) := by decide +kernel
theorem dX12_readChange_87 : decode cX12_readChange 87 = .ok (.bipush 19, 2) := by decide +kernel
theorem dX12_readChange_89 : decode cX12_readChange 89 = .ok (.invokevirtual 177, 3) := by decide +kernel
theorem dX12_readChange_92 : decode cX12_readChange 92 = .ok (.ifCond .eq 7, 3) := by decide +kernel
theorem dX12_readChange_95 : decode cX12_readChange 95 = .ok (.iconst 1, 1) := by decide +kernel
theorem dX12_readChange_96 : decode cX12_readChange 96 = .ok (.goto 4, 3) := by decide +kernel
theorem dX12_readChange_99 : decode cX12_readChange 99 = .ok (.iconst 0, 1) := by decide +kernel
theorem dX12_readChange_100 : decode cX12_readChange 100 = .ok (.ireturn, 1) := by decide +kernel
theorem dX12_readChange_101 : decode cX12_readChange 101 = .ok (.aload_n 0, 1) := by decide +kernel
theorem dX12_readChange_102 : decode cX12_readChange 102 = .ok (.iconst 1, 1) := by decide +kernel
theorem dX12_readChange_103 : decode cX12_readChange 103 = .ok (.iconst 0, 1) := by decide +kernel
theorem dX12_readChange_104 : decode cX12_readChange 104 = .ok (.bipush 9, 2) := by decide +kernel
theorem dX12_readChange_106 : decode cX12_readChange 106 = .ok (.invokevirtual 177, 3) := by decide +kernel
theorem dX12_readChange_109 : decode cX12_readChange 109 = .ok (.ireturn, 1) := by decide +kernel
theorem dX12_changeLine_0 : decode cX12_changeLine 0 = .ok (.aload_n 0, 1) := by decide +kernel
theorem dX12_changeLine_1 : decode cX12_changeLine 1 = .ok (.invokevirtual 124, 3) := by decide +kernel
theorem dX12_changeLine_4 : decode cX12_changeLine 4 = .ok (.aload_n 0, 1) := by decide +kernel
theorem dX12_changeLine_5 : decode cX12_changeLine 5 = .ok (.iload_n 1, 1) := by decide +kernel
theorem dX12_changeLine_6 : decode cX12_changeLine 6 = .ok (.invokevirtual 183, 3) := by decide +kernel
theorem dX12_changeLine_9 : decode cX12_changeLine 9 = .ok (.ifCond .ne 5, 3) := by decide +kernel
theorem dX12_changeLine_12 : decode cX12_changeLine 12 = .ok (.iconst 0, 1) := by decide +kernel
theorem dX12_changeLine_13 : decode cX12_changeLine 13 = .ok (.ireturn, 1) := by decide +kernel
theorem dX12_changeLine_14 : decode cX12_changeLine 14 = .ok (.aload_n 0, 1) := by decide +kernel
theorem dX12_changeLine_15 : decode cX12_changeLine 15 = .ok (.getfield 120, 3) := by decide +kernel
theorem dX12_changeLine_18 : decode cX12_changeLine 18 = .ok (.ifCond .eq 73, 3) := by decide +kernel
theorem dX12_changeLine_21 : decode cX12_changeLine 21 = .ok (.aload_n 0, 1) := by decide +kernel
theorem dX12_changeLine_22 : decode cX12_changeLine 22 = .ok (.getfield 38, 3) := by decide +kernel
theorem dX12_changeLine_25 : decode cX12_changeLine 25 = .ok (.iconst 0, 1) := by decide +kernel
theorem dX12_changeLine_26 : decode cX12_changeLine 26 = .ok (.iaload, 1) := by decide +kernel
theorem dX12_changeLine_27 : decode cX12_changeLine 27 = .ok (.aload_n 0, 1) := by decide +kernel
theorem dX12_changeLine_28 : decode cX12_changeLine 28 = .ok (.getfield 35, 3) := by decide +kernel
theorem dX12_changeLine_31 : decode cX12_changeLine 31 = .ok (.iconst 0, 1) := by decide +kernel
theorem dX12_changeLine_32 : decode cX12_changeLine 32 = .ok (.iaload, 1) := by decide +kernel
theorem dX12_changeLine_33 : decode cX12_changeLine 33 = .ok (.if_icmp .ge 7, 3) := by decide +kernel
theorem dX12_changeLine_36 : decode cX12_changeLine 36 = .ok (.iconst 1, 1) := by decide +kernel
theorem dX12_changeLine_37 : decode cX12_changeLine 37 = .ok (.goto 4, 3) := by decide +kernel
theorem dX12_changeLine_40 : decode cX12_changeLine 40 = .ok (.iconst 0, 1) := by decide +kernel
theorem dX12_changeLine_41 : decode cX12_changeLine 41 = .ok (.istore_n 3, 1) := by decide +kernel
theorem dX12_changeLine_42 : decode cX12_changeLine 42 = .ok (.iload_n 3, 1) := by decide +kernel
theorem dX12_changeLine_43 : decode cX12_changeLine 43 = .ok (.ifCond .eq 30, 3) := by decide +kernel
theorem dX12_changeLine_46 : decode cX12_changeLine 46 = .ok (.aload_n 0, 1) := by decide +kernel
theorem dX12_changeLine_47 : decode cX12_changeLine 47 = .ok (.getfield 35, 3) := by decide +kernel
theorem dX12_changeLine_50 : decode cX12_changeLine 50 = .ok (.iconst 1, 1) := by decide +kernel
theorem dX12_changeLine_51 : decode cX12_changeLine 51 = .ok (.aload_n 0, 1) := by decide +kernel
theorem dX12_changeLine_52 : decode cX12_changeLine 52 = .ok (.getfield 38, 3) := by decide +kernel
theorem dX12_changeLine_55 : decode cX12_changeLine 55 = .ok (.iconst 0, 1) := by decide +kernel
theorem dX12_changeLine_56 : decode cX12_changeLine 56 = .ok (.iaload, 1) := by decide +kernel
theorem dX12_changeLine_57 : decode cX12_changeLine 57 = .ok (.iadd, 1) := by decide +kernel
theorem dX12_changeLine_58 : decode cX12_changeLine 58 = .ok (.iaload, 1) := by decide +kernel
theorem dX12_changeLine_59 : decode cX12_changeLine 59 = .ok (.bipush 10, 2) := by decide +kernel
theorem dX12_changeLine_61 : decode cX12_changeLine 61 = .ok (.if_icmp .ne 12, 3) := by decide +kernel
theorem dX12_changeLine_64 : decode cX12_changeLine 64 = .ok (.aload_n 0, 1) := by decide +kernel
theorem dX12_changeLine_65 : decode cX12_changeLine 65 = .ok (.iconst 3, 1) := by decide +kernel
theorem dX12_changeLine_66 : decode cX12_changeLine 66 = .ok (.iload_n 2, 1) := by decide +kernel
theorem dX12_changeLine_67 : decode cX12_changeLine 67 = .ok (.invokevirtual 116, 3) := by decide +kernel
theorem dX12_changeLine_70 : decode cX12_changeLine 70 = .ok (.goto 21, 3) := by decide +kernel
theorem dX12_changeLine_73 : decode cX12_changeLine 73 = .ok (.iload_n 3, 1) := by decide +kernel
theorem dX12_changeLine_74 : decode cX12_changeLine 74 = .ok (.ifCond .eq 11, 3) := by decide +kernel
theorem dX12_changeLine_77 : decode cX12_changeLine 77 = .ok (.aload_n 0, 1) := by decide +kernel
theorem dX12_changeLine_78 : decode cX12_changeLine 78 = .ok (.iload_n 1, 1) := by decide +kernel
theorem dX12_changeLine_79 : decode cX12_changeLine 79 = .ok (.invokevirtual 187, 3) := by decide +kernel
theorem dX12_changeLine_82 : decode cX12_changeLine 82 = .ok (.ifCond .ne 9, 3) := by decide +kernel
theorem dX12_changeLine_85 : decode cX12_changeLine 85 = .ok (.aload_n 0, 1) := by decide +kernel
theorem dX12_changeLine_86 : decode cX12_changeLine 86 = .ok (.iconst 4, 1) := by decide +kernel
theorem dX12_changeLine_87 : decode cX12_changeLine 87 = .ok (.iload_n 2, 1) := by decide +kernel
theorem dX12_changeLine_88 : decode cX12_changeLine 88 = .ok (.invokevirtual 116, 3) := by decide +kernel
theorem dX12_changeLine_91 : decode cX12_changeLine 91 = .ok (.aload_n 0, 1) := by decide +kernel
theorem dX12_changeLine_92 : decode cX12_changeLine 92 = .ok (.getfield 106, 3) := by decide +kernel
theorem dX12_changeLine_95 : decode cX12_changeLine 95 = .ok (.ifCond .ne 8, 3) := by decide +kernel
theorem dX12_changeLine_98 : decode cX12_changeLine 98 = .ok (.aload_n 0, 1) := by decide +kernel
theorem dX12_changeLine_99 : decode cX12_changeLine 99 = .ok (.iload_n 1, 1) := by decide +kernel
theorem dX12_changeLine_100 : decode cX12_changeLine 100 = .ok (.invokevirtual 190, 3) := by decide +kernel
theorem dX12_changeLine_103 : decode cX12_changeLine 103 = .ok (.iconst 1, 1) := by decide +kernel
theorem dX12_changeLine_104 : decode cX12_changeLine 104 = .ok (.ireturn, 1) := by decide +kernel
theorem dX12_archiveLine_0 : decode cX12_archiveLine 0 = .ok (.aload_n 0, 1) := by decide +kernel
theorem dX12_archiveLine_1 : decode cX12_archiveLine 1 = .ok (.lload_n 1, 1) := by decide +kernel
theorem dX12_archiveLine_2 : decode cX12_archiveLine 2 = .ok (.invokevirtual 193, 3) := by decide +kernel
theorem dX12_archiveLine_5 : decode cX12_archiveLine 5 = .ok (.istore 4, 2) := by decide +kernel
theorem dX12_archiveLine_7 : decode cX12_archiveLine 7 = .ok (.lload_n 1, 1) := by decide +kernel
theorem dX12_archiveLine_8 : decode cX12_archiveLine 8 = .ok (.ldc2_w 196, 3) := by decide +kernel
theorem dX12_archiveLine_11 : decode cX12_archiveLine 11 = .ok (.lcmp, 1) := by decide +kernel
theorem dX12_archiveLine_12 : decode cX12_archiveLine 12 = .ok (.ifCond .ne 11, 3) := by decide +kernel
theorem dX12_archiveLine_15 : decode cX12_archiveLine 15 = .ok (.aload_n 0, 1) := by decide +kernel
theorem dX12_archiveLine_16 : decode cX12_archiveLine 16 = .ok (.iload_n 3, 1) := by decide +kernel
theorem dX12_archiveLine_17 : decode cX12_archiveLine 17 = .ok (.invokevirtual 198, 3) := by decide +kernel
theorem dX12_archiveLine_20 : decode cX12_archiveLine 20 = .ok (.goto 23, 3) := by decide +kernel
theorem dX12_archiveLine_23 : decode cX12_archiveLine 23 = .ok (.iload 4, 2) := by decide +kernel
theorem dX12_archiveLine_25 : decode cX12_archiveLine 25 = .ok (.iconst (-1), 1) := by decide +kernel
theorem dX12_archiveLine_26 : decode cX12_archiveLine 26 = .ok (.if_icmp .ne 10, 3) := by decide +kernel
theorem dX12_archiveLine_29 : decode cX12_archiveLine 29 = .ok (.aload_n 0, 1) := by decide +kernel
theorem dX12_archiveLine_30 : decode cX12_archiveLine 30 = .ok (.invokevirtual 112, 3) := by decide +kernel
theorem dX12_archiveLine_33 : decode cX12_archiveLine 33 = .ok (.goto 10, 3) := by decide +kernel
theorem dX12_archiveLine_36 : decode cX12_archiveLine 36 = .ok (.aload_n 0, 1) := by decide +kernel
theorem dX12_archiveLine_37 : decode cX12_archiveLine 37 = .ok (.iload 4, 2) := by decide +kernel
theorem dX12_archiveLine_39 : decode cX12_archiveLine 39 = .ok (.iload_n 3, 1) := by decide +kernel
theorem dX12_archiveLine_40 : decode cX12_archiveLine 40 = .ok (.invokevirtual 201, 3) := by decide +kernel
theorem dX12_archiveLine_43 : decode cX12_archiveLine 43 = .ok (.ireturn, 1) := by decide +kernel
theorem dX12_askingBy_0 : decode cX12_askingBy 0 = .ok (.lload_n 1, 1) := by decide +kernel
theorem dX12_askingBy_1 : decode cX12_askingBy 1 = .ok (.ldc2_w 204, 3) := by decide +kernel
theorem dX12_askingBy_4 : decode cX12_askingBy 4 = .ok (.lcmp, 1) := by decide +kernel
theorem dX12_askingBy_5 : decode cX12_askingBy 5 = .ok (.ifCond .ne 7, 3) := by decide +kernel
theorem dX12_askingBy_8 : decode cX12_askingBy 8 = .ok (.iconst 0, 1) := by decide +kernel
theorem dX12_askingBy_9 : decode cX12_askingBy 9 = .ok (.goto 90, 3) := by decide +kernel
theorem dX12_askingBy_12 : decode cX12_askingBy 12 = .ok (.lload_n 1, 1) := by decide +kernel
theorem dX12_askingBy_13 : decode cX12_askingBy 13 = .ok (.ldc2_w 206, 3) := by decide +kernel
theorem dX12_askingBy_16 : decode cX12_askingBy 16 = .ok (.lcmp, 1) := by decide +kernel
theorem dX12_askingBy_17 : decode cX12_askingBy 17 = .ok (.ifCond .ne 7, 3) := by decide +kernel
theorem dX12_askingBy_20 : decode cX12_askingBy 20 = .ok (.iconst 1, 1) := by decide +kernel
theorem dX12_askingBy_21 : decode cX12_askingBy 21 = .ok (.goto 78, 3) := by decide +kernel
theorem dX12_askingBy_24 : decode cX12_askingBy 24 = .ok (.lload_n 1, 1) := by decide +kernel
theorem dX12_askingBy_25 : decode cX12_askingBy 25 = .ok (.ldc2_w 208, 3) := by decide +kernel
theorem dX12_askingBy_28 : decode cX12_askingBy 28 = .ok (.lcmp, 1) := by decide +kernel
theorem dX12_askingBy_29 : decode cX12_askingBy 29 = .ok (.ifCond .ne 7, 3) := by decide +kernel
theorem dX12_askingBy_32 : decode cX12_askingBy 32 = .ok (.iconst 2, 1) := by decide +kernel
theorem dX12_askingBy_33 : decode cX12_askingBy 33 = .ok (.goto 66, 3) := by decide +kernel
theorem dX12_askingBy_36 : decode cX12_askingBy 36 = .ok (.lload_n 1, 1) := by decide +kernel
theorem dX12_askingBy_37 : decode cX12_askingBy 37 = .ok (.ldc2_w 210, 3) := by decide +kernel
theorem dX12_askingBy_40 : decode cX12_askingBy 40 = .ok (.lcmp, 1) := by decide +kernel
theorem dX12_askingBy_41 : decode cX12_askingBy 41 = .ok (.ifCond .ne 7, 3) := by decide +kernel
theorem dX12_askingBy_44 : decode cX12_askingBy 44 = .ok (.iconst 3, 1) := by decide +kernel
theorem dX12_askingBy_45 : decode cX12_askingBy 45 = .ok (.goto 54, 3) := by decide +kernel
theorem dX12_askingBy_48 : decode cX12_askingBy 48 = .ok (.lload_n 1, 1) := by decide +kernel
theorem dX12_askingBy_49 : decode cX12_askingBy 49 = .ok (.ldc2_w 212, 3) := by decide +kernel
theorem dX12_askingBy_52 : decode cX12_askingBy 52 = .ok (.lcmp, 1) := by decide +kernel
theorem dX12_askingBy_53 : decode cX12_askingBy 53 = .ok (.ifCond .ne 7, 3) := by decide +kernel
theorem dX12_askingBy_56 : decode cX12_askingBy 56 = .ok (.iconst 4, 1) := by decide +kernel
theorem dX12_askingBy_57 : decode cX12_askingBy 57 = .ok (.goto 42, 3) := by decide +kernel
theorem dX12_askingBy_60 : decode cX12_askingBy 60 = .ok (.lload_n 1, 1) := by decide +kernel
theorem dX12_askingBy_61 : decode cX12_askingBy 61 = .ok (.ldc2_w 214, 3) := by decide +kernel
theorem dX12_askingBy_64 : decode cX12_askingBy 64 = .ok (.lcmp, 1) := by decide +kernel
theorem dX12_askingBy_65 : decode cX12_askingBy 65 = .ok (.ifCond .ne 7, 3) := by decide +kernel
theorem dX12_askingBy_68 : decode cX12_askingBy 68 = .ok (.iconst 5, 1) := by decide +kernel
theorem dX12_askingBy_69 : decode cX12_askingBy 69 = .ok (.goto 30, 3) := by decide +kernel
theorem dX12_askingBy_72 : decode cX12_askingBy 72 = .ok (.lload_n 1, 1) := by decide +kernel
theorem dX12_askingBy_73 : decode cX12_askingBy 73 = .ok (.ldc2_w 216, 3) := by decide +kernel
theorem dX12_askingBy_76 : decode cX12_askingBy 76 = .ok (.lcmp, 1) := by decide +kernel
theorem dX12_askingBy_77 : decode cX12_askingBy 77 = .ok (.ifCond .ne 8, 3) := by decide +kernel
theorem dX12_askingBy_80 : decode cX12_askingBy 80 = .ok (.bipush 6, 2) := by decide +kernel
theorem dX12_askingBy_82 : decode cX12_askingBy 82 = .ok (.goto 17, 3) := by decide +kernel
theorem dX12_askingBy_85 : decode cX12_askingBy 85 = .ok (.lload_n 1, 1) := by decide +kernel
theorem dX12_askingBy_86 : decode cX12_askingBy 86 = .ok (.ldc2_w 218, 3) := by decide +kernel
theorem dX12_askingBy_89 : decode cX12_askingBy 89 = .ok (.lcmp, 1) := by decide +kernel
theorem dX12_askingBy_90 : decode cX12_askingBy 90 = .ok (.ifCond .ne 8, 3) := by decide +kernel
theorem dX12_askingBy_93 : decode cX12_askingBy 93 = .ok (.bipush 7, 2) := by decide +kernel
theorem dX12_askingBy_95 : decode cX12_askingBy 95 = .ok (.goto 4, 3) := by decide +kernel
theorem dX12_askingBy_98 : decode cX12_askingBy 98 = .ok (.iconst (-1), 1) := by decide +kernel
theorem dX12_askingBy_99 : decode cX12_askingBy 99 = .ok (.ireturn, 1) := by decide +kernel
theorem dX12_readAsking_0 : decode cX12_readAsking 0 = .ok (.iload_n 1, 1) := by decide +kernel
theorem dX12_readAsking_1 : decode cX12_readAsking 1 = .ok (.tableswitch 158 0 7 #[47, 73, 104, 158, 158, 158, 128, 128], 47) := by decide +kernel
theorem dX12_readAsking_48 : decode cX12_readAsking 48 = .ok (.aload_n 0, 1) := by decide +kernel
theorem dX12_readAsking_49 : decode cX12_readAsking 49 = .ok (.invokevirtual 136, 3) := by decide +kernel
theorem dX12_readAsking_52 : decode cX12_readAsking 52 = .ok (.ifCond .ne 5, 3) := by decide +kernel
theorem dX12_readAsking_55 : decode cX12_readAsking 55 = .ok (.iconst 0, 1) := by decide +kernel
theorem dX12_readAsking_56 : decode cX12_readAsking 56 = .ok (.ireturn, 1) := by decide +kernel
theorem dX12_readAsking_57 : decode cX12_readAsking 57 = .ok (.aload_n 0, 1) := by decide +kernel
theorem dX12_readAsking_58 : decode cX12_readAsking 58 = .ok (.iconst 4, 1) := by decide +kernel
theorem dX12_readAsking_59 : decode cX12_readAsking 59 = .ok (.invokevirtual 153, 3) := by decide +kernel
theorem dX12_readAsking_62 : decode cX12_readAsking 62 = .ok (.aload_n 0, 1) := by decide +kernel
theorem dX12_readAsking_63 : decode cX12_readAsking 63 = .ok (.getfield 38, 3) := by decide +kernel
theorem dX12_readAsking_66 : decode cX12_readAsking 66 = .ok (.iconst 1, 1) := by decide +kernel
theorem dX12_readAsking_67 : decode cX12_readAsking 67 = .ok (.aload_n 0, 1) := by decide +kernel
theorem dX12_readAsking_68 : decode cX12_readAsking 68 = .ok (.getfield 129, 3) := by decide +kernel
theorem dX12_readAsking_71 : decode cX12_readAsking 71 = .ok (.iastore, 1) := by decide +kernel
theorem dX12_readAsking_72 : decode cX12_readAsking 72 = .ok (.iconst 1, 1) := by decide +kernel
theorem dX12_readAsking_73 : decode cX12_readAsking 73 = .ok (.ireturn, 1) := by decide +kernel
theorem dX12_readAsking_74 : decode cX12_readAsking 74 = .ok (.aload_n 0, 1) := by decide +kernel
theorem dX12_readAsking_75 : decode cX12_readAsking 75 = .ok (.invokevirtual 136, 3) := by decide +kernel
theorem dX12_readAsking_78 : decode cX12_readAsking 78 = .ok (.ifCond .eq 25, 3) := by decide +kernel
theorem dX12_readAsking_81 : decode cX12_readAsking 81 = .ok (.aload_n 0, 1) := by decide +kernel
theorem dX12_readAsking_82 : decode cX12_readAsking 82 = .ok (.invokevirtual 136, 3) := by decide +kernel
theorem dX12_readAsking_85 : decode cX12_readAsking 85 = .ok (.ifCond .eq 18, 3) := by decide +kernel
theorem dX12_readAsking_88 : decode cX12_readAsking 88 = .ok (.aload_n 0, 1) := by decide +kernel
theorem dX12_readAsking_89 : decode cX12_readAsking 89 = .ok (.iconst 1, 1) := by decide +kernel
theorem dX12_readAsking_90 : decode cX12_readAsking 90 = .ok (.iconst 1, 1) := by decide +kernel
theorem dX12_readAsking_91 : decode cX12_readAsking 91 = .ok (.bipush 9, 2) := by decide +kernel
theorem dX12_readAsking_93 : decode cX12_readAsking 93 = .ok (.invokevirtual 177, 3) := by decide +kernel
theorem dX12_readAsking_96 : decode cX12_readAsking 96 = .ok (.ifCond .eq 7, 3) := by decide +kernel
theorem dX12_readAsking_99 : decode cX12_readAsking 99 = .ok (.iconst 1, 1) := by decide +kernel
theorem dX12_readAsking_100 : decode cX12_readAsking 100 = .ok (.goto 4, 3) := by decide +kernel
theorem dX12_readAsking_103 : decode cX12_readAsking 103 = .ok (.iconst 0, 1) := by decide +kernel
theorem dX12_readAsking_104 : decode cX12_readAsking 104 = .ok (.ireturn, 1) := by decide +kernel
theorem dX12_readAsking_105 : decode cX12_readAsking 105 = .ok (.aload_n 0, 1) := by decide +kernel
theorem dX12_readAsking_106 : decode cX12_readAsking 106 = .ok (.invokevirtual 136, 3) := by decide +kernel
theorem dX12_readAsking_109 : decode cX12_readAsking 109 = .ok (.ifCond .eq 18, 3) := by decide +kernel
theorem dX12_readAsking_112 : decode cX12_readAsking 112 = .ok (.aload_n 0, 1) := by decide +kernel
theorem dX12_readAsking_113 : decode cX12_readAsking 113 = .ok (.iconst 1, 1) := by decide +kernel
theorem dX12_readAsking_114 : decode cX12_readAsking 114 = .ok (.iconst 1, 1) := by decide +kernel
theorem dX12_readAsking_115 : decode cX12_readAsking 115 = .ok (.bipush 9, 2) := by decide +kernel
theorem dX12_readAsking_117 : decode cX12_readAsking 117 = .ok (.invokevirtual 177, 3) := by decide +kernel
theorem dX12_readAsking_120 : decode cX12_readAsking 120 = .ok (.ifCond .eq 7, 3) := by decide +kernel
theorem dX12_readAsking_123 : decode cX12_readAsking 123 = .ok (.iconst 1, 1) := by decide +kernel
theorem dX12_readAsking_124 : decode cX12_readAsking 124 = .ok (.goto 4, 3) := by decide +kernel
theorem dX12_readAsking_127 : decode cX12_readAsking 127 = .ok (.iconst 0, 1) := by decide +kernel
theorem dX12_readAsking_128 : decode cX12_readAsking 128 = .ok (.ireturn, 1) := by decide +kernel
theorem dX12_readAsking_129 : decode cX12_readAsking 129 = .ok (.aload_n 0, 1) := by decide +kernel
theorem dX12_readAsking_130 : decode cX12_readAsking 130 = .ok (.iconst 1, 1) := by decide +kernel
theorem dX12_readAsking_131 : decode cX12_readAsking 131 = .ok (.iconst 0, 1) := by decide +kernel
theorem dX12_readAsking_132 : decode cX12_readAsking 132 = .ok (.iload_n 2, 1) := by decide +kernel
theorem dX12_readAsking_133 : decode cX12_readAsking 133 = .ok (.iconst 1, 1) := by decide +kernel
theorem dX12_readAsking_134 : decode cX12_readAsking 134 = .ok (.isub, 1) := by decide +kernel
theorem dX12_readAsking_135 : decode cX12_readAsking 135 = .ok (.invokevirtual 177, 3) := by decide +kernel
theorem dX12_readAsking_138 : decode cX12_readAsking 138 = .ok (.ifCond .eq 19, 3) := by decide +kernel
theorem dX12_readAsking_141 : decode cX12_readAsking 141 = .ok (.aload_n 0, 1) := by decide +kernel
theorem dX12_readAsking_142 : decode cX12_readAsking 142 = .ok (.iconst 2, 1) := by decide +kernel
theorem dX12_readAsking_143 : decode cX12_readAsking 143 = .ok (.iconst 0, 1) := by decide +kernel
theorem dX12_readAsking_144 : decode cX12_readAsking 144 = .ok (.iload_n 2, 1) := by decide +kernel
theorem dX12_readAsking_145 : decode cX12_readAsking 145 = .ok (.iconst 1, 1) := by decide +kernel
theorem dX12_readAsking_146 : decode cX12_readAsking 146 = .ok (.isub, 1) := by decide +kernel
theorem dX12_readAsking_147 : decode cX12_readAsking 147 = .ok (.invokevirtual 177, 3) := by decide +kernel
theorem dX12_readAsking_150 : decode cX12_readAsking 150 = .ok (.ifCond .eq 7, 3) := by decide +kernel
theorem dX12_readAsking_153 : decode cX12_readAsking 153 = .ok (.iconst 1, 1) := by decide +kernel
theorem dX12_readAsking_154 : decode cX12_readAsking 154 = .ok (.goto 4, 3) := by decide +kernel
theorem dX12_readAsking_157 : decode cX12_readAsking 157 = .ok (.iconst 0, 1) := by decide +kernel
theorem dX12_readAsking_158 : decode cX12_readAsking 158 = .ok (.ireturn, 1) := by decide +kernel
theorem dX12_readAsking_159 : decode cX12_readAsking 159 = .ok (.aload_n 0, 1) := by decide +kernel
theorem dX12_readAsking_160 : decode cX12_readAsking 160 = .ok (.iconst 1, 1) := by decide +kernel
theorem dX12_readAsking_161 : decode cX12_readAsking 161 = .ok (.iconst 0, 1) := by decide +kernel
theorem dX12_readAsking_162 : decode cX12_readAsking 162 = .ok (.iload_n 2, 1) := by decide +kernel
theorem dX12_readAsking_163 : decode cX12_readAsking 163 = .ok (.iconst 1, 1) := by decide +kernel
theorem dX12_readAsking_164 : decode cX12_readAsking 164 = .ok (.isub, 1) := by decide +kernel
theorem dX12_readAsking_165 : decode cX12_readAsking 165 = .ok (.invokevirtual 177, 3) := by decide +kernel
theorem dX12_readAsking_168 : decode cX12_readAsking 168 = .ok (.ireturn, 1) := by decide +kernel
theorem dX12_askingLine_0 : decode cX12_askingLine 0 = .ok (.aload_n 0, 1) := by decide +kernel
theorem dX12_askingLine_1 : decode cX12_askingLine 1 = .ok (.lload_n 1, 1) := by decide +kernel
theorem dX12_askingLine_2 : decode cX12_askingLine 2 = .ok (.invokevirtual 220, 3) := by decide +kernel
theorem dX12_askingLine_5 : decode cX12_askingLine 5 = .ok (.istore 4, 2) := by decide +kernel
theorem dX12_askingLine_7 : decode cX12_askingLine 7 = .ok (.iload 4, 2) := by decide +kernel
theorem dX12_askingLine_9 : decode cX12_askingLine 9 = .ok (.iconst (-1), 1) := by decide +kernel
theorem dX12_askingLine_10 : decode cX12_askingLine 10 = .ok (.if_icmp .ne 8, 3) := by decide +kernel
theorem dX12_askingLine_13 : decode cX12_askingLine 13 = .ok (.aload_n 0, 1) := by decide +kernel
theorem dX12_askingLine_14 : decode cX12_askingLine 14 = .ok (.invokevirtual 112, 3) := by decide +kernel
theorem dX12_askingLine_17 : decode cX12_askingLine 17 = .ok (.ireturn, 1) := by decide +kernel
theorem dX12_askingLine_18 : decode cX12_askingLine 18 = .ok (.aload_n 0, 1) := by decide +kernel
theorem dX12_askingLine_19 : decode cX12_askingLine 19 = .ok (.getfield 35, 3) := by decide +kernel
theorem dX12_askingLine_22 : decode cX12_askingLine 22 = .ok (.iconst 0, 1) := by decide +kernel
theorem dX12_askingLine_23 : decode cX12_askingLine 23 = .ok (.iaload, 1) := by decide +kernel
theorem dX12_askingLine_24 : decode cX12_askingLine 24 = .ok (.istore 5, 2) := by decide +kernel
theorem dX12_askingLine_26 : decode cX12_askingLine 26 = .ok (.iload 5, 2) := by decide +kernel
theorem dX12_askingLine_28 : decode cX12_askingLine 28 = .ok (.bipush 8, 2) := by decide +kernel
theorem dX12_askingLine_30 : decode cX12_askingLine 30 = .ok (.if_icmp .ne 9, 3) := by decide +kernel
theorem dX12_askingLine_33 : decode cX12_askingLine 33 = .ok (.aload_n 0, 1) := by decide +kernel
theorem dX12_askingLine_34 : decode cX12_askingLine 34 = .ok (.iconst 3, 1) := by decide +kernel
theorem dX12_askingLine_35 : decode cX12_askingLine 35 = .ok (.iload_n 3, 1) := by decide +kernel
theorem dX12_askingLine_36 : decode cX12_askingLine 36 = .ok (.invokevirtual 116, 3) := by decide +kernel
theorem dX12_askingLine_39 : decode cX12_askingLine 39 = .ok (.aload_n 0, 1) := by decide +kernel
theorem dX12_askingLine_40 : decode cX12_askingLine 40 = .ok (.invokevirtual 124, 3) := by decide +kernel
theorem dX12_askingLine_43 : decode cX12_askingLine 43 = .ok (.aload_n 0, 1) := by decide +kernel
theorem dX12_askingLine_44 : decode cX12_askingLine 44 = .ok (.getfield 38, 3) := by decide +kernel
theorem dX12_askingLine_47 : decode cX12_askingLine 47 = .ok (.iconst 1, 1) := by decide +kernel
theorem dX12_askingLine_48 : decode cX12_askingLine 48 = .ok (.iconst (-1), 1) := by decide +kernel
theorem dX12_askingLine_49 : decode cX12_askingLine 49 = .ok (.iastore, 1) := by decide +kernel
theorem dX12_askingLine_50 : decode cX12_askingLine 50 = .ok (.aload_n 0, 1) := by decide +kernel
theorem dX12_askingLine_51 : decode cX12_askingLine 51 = .ok (.getfield 38, 3) := by decide +kernel
theorem dX12_askingLine_54 : decode cX12_askingLine 54 = .ok (.iconst 2, 1) := by decide +kernel
theorem dX12_askingLine_55 : decode cX12_askingLine 55 = .ok (.iconst (-1), 1) := by decide +kernel
theorem dX12_askingLine_56 : decode cX12_askingLine 56 = .ok (.iastore, 1) := by decide +kernel
theorem dX12_askingLine_57 : decode cX12_askingLine 57 = .ok (.aload_n 0, 1) := by decide +kernel
theorem dX12_askingLine_58 : decode cX12_askingLine 58 = .ok (.iload 4, 2) := by decide +kernel
theorem dX12_askingLine_60 : decode cX12_askingLine 60 = .ok (.iload 5, 2) := by decide +kernel
theorem dX12_askingLine_62 : decode cX12_askingLine 62 = .ok (.invokevirtual 223, 3) := by decide +kernel
theorem dX12_askingLine_65 : decode cX12_askingLine 65 = .ok (.ifCond .ne 5, 3) := by decide +kernel
theorem dX12_askingLine_68 : decode cX12_askingLine 68 = .ok (.iconst 0, 1) := by decide +kernel
theorem dX12_askingLine_69 : decode cX12_askingLine 69 = .ok (.ireturn, 1) := by decide +kernel
theorem dX12_askingLine_70 : decode cX12_askingLine 70 = .ok (.iconst 0, 1) := by decide +kernel
theorem dX12_askingLine_71 : decode cX12_askingLine 71 = .ok (.istore 6, 2) := by decide +kernel
theorem dX12_askingLine_73 : decode cX12_askingLine 73 = .ok (.iload 6, 2) := by decide +kernel
theorem dX12_askingLine_75 : decode cX12_askingLine 75 = .ok (.bipush 7, 2) := by decide +kernel
theorem dX12_askingLine_77 : decode cX12_askingLine 77 = .ok (.if_icmp .ge 81, 3) := by decide +kernel
theorem dX12_askingLine_80 : decode cX12_askingLine 80 = .ok (.iload 5, 2) := by decide +kernel
theorem dX12_askingLine_82 : decode cX12_askingLine 82 = .ok (.bipush 8, 2) := by decide +kernel
theorem dX12_askingLine_84 : decode cX12_askingLine 84 = .ok (.if_icmp .ge 74, 3) := by decide +kernel
theorem dX12_askingLine_87 : decode cX12_askingLine 87 = .ok (.aload_n 0, 1) := by decide +kernel
theorem dX12_askingLine_88 : decode cX12_askingLine 88 = .ok (.getfield 35, 3) := by decide +kernel
theorem dX12_askingLine_91 : decode cX12_askingLine 91 = .ok (.iconst 1, 1) := by decide +kernel
theorem dX12_askingLine_92 : decode cX12_askingLine 92 = .ok (.bipush 7, 2) := by decide +kernel
theorem dX12_askingLine_94 : decode cX12_askingLine 94 = .ok (.iload 5, 2) := by decide +kernel
theorem dX12_askingLine_96 : decode cX12_askingLine 96 = .ok (.imul, 1) := by decide +kernel
theorem dX12_askingLine_97 : decode cX12_askingLine 97 = .ok (.iadd, 1) := by decide +kernel
theorem dX12_askingLine_98 : decode cX12_askingLine 98 = .ok (.iload 6, 2) := by decide +kernel
theorem dX12_askingLine_100 : decode cX12_askingLine 100 = .ok (.iadd, 1) := by decide +kernel
theorem dX12_askingLine_101 : decode cX12_askingLine 101 = .ok (.iload 6, 2) := by decide +kernel
theorem dX12_askingLine_103 : decode cX12_askingLine 103 = .ok (.ifCond .ne 8, 3) := by decide +kernel
theorem dX12_askingLine_106 : decode cX12_askingLine 106 = .ok (.iload 4, 2) := by decide +kernel
theorem dX12_askingLine_108 : decode cX12_askingLine 108 = .ok (.goto 43, 3) := by decide +kernel
theorem dX12_askingLine_111 : decode cX12_askingLine 111 = .ok (.iload 6, 2) := by decide +kernel
theorem dX12_askingLine_113 : decode cX12_askingLine 113 = .ok (.iconst 3, 1) := by decide +kernel
theorem dX12_askingLine_114 : decode cX12_askingLine 114 = .ok (.if_icmp .ge 13, 3) := by decide +kernel
theorem dX12_askingLine_117 : decode cX12_askingLine 117 = .ok (.aload_n 0, 1) := by decide +kernel
theorem dX12_askingLine_118 : decode cX12_askingLine 118 = .ok (.getfield 38, 3) := by decide +kernel
theorem dX12_askingLine_121 : decode cX12_askingLine 121 = .ok (.iload 6, 2) := by decide +kernel
theorem dX12_askingLine_123 : decode cX12_askingLine 123 = .ok (.iaload, 1) := by decide +kernel
theorem dX12_askingLine_124 : decode cX12_askingLine 124 = .ok (.goto 27, 3) := by decide +kernel
theorem dX12_askingLine_127 : decode cX12_askingLine 127 = .ok (.iload 6, 2) := by decide +kernel
theorem dX12_askingLine_129 : decode cX12_askingLine 129 = .ok (.iconst 3, 1) := by decide +kernel
theorem dX12_askingLine_130 : decode cX12_askingLine 130 = .ok (.isub, 1) := by decide +kernel
theorem dX12_askingLine_131 : decode cX12_askingLine 131 = .ok (.aload_n 0, 1) := by decide +kernel
theorem dX12_askingLine_132 : decode cX12_askingLine 132 = .ok (.getfield 129, 3) := by decide +kernel
theorem dX12_askingLine_135 : decode cX12_askingLine 135 = .ok (.if_icmp .ge 15, 3) := by decide +kernel
theorem dX12_askingLine_138 : decode cX12_askingLine 138 = .ok (.aload_n 0, 1) := by decide +kernel
theorem dX12_askingLine_139 : decode cX12_askingLine 139 = .ok (.getfield 41, 3) := by decide +kernel
theorem dX12_askingLine_142 : decode cX12_askingLine 142 = .ok (.iload 6, 2) := by decide +kernel
theorem dX12_askingLine_144 : decode cX12_askingLine 144 = .ok (.iconst 3, 1) := by decide +kernel
theorem dX12_askingLine_145 : decode cX12_askingLine 145 = .ok (.isub, 1) := by decide +kernel
theorem dX12_askingLine_146 : decode cX12_askingLine 146 = .ok (.iaload, 1) := by decide +kernel
theorem dX12_askingLine_147 : decode cX12_askingLine 147 = .ok (.goto 4, 3) := by decide +kernel
theorem dX12_askingLine_150 : decode cX12_askingLine 150 = .ok (.iconst 0, 1) := by decide +kernel
theorem dX12_askingLine_151 : decode cX12_askingLine 151 = .ok (.iastore, 1) := by decide +kernel
theorem dX12_askingLine_152 : decode cX12_askingLine 152 = .ok (.iinc 6 1, 3) := by decide +kernel
theorem dX12_askingLine_155 : decode cX12_askingLine 155 = .ok (.goto (-82), 3) := by decide +kernel
theorem dX12_askingLine_158 : decode cX12_askingLine 158 = .ok (.aload_n 0, 1) := by decide +kernel
theorem dX12_askingLine_159 : decode cX12_askingLine 159 = .ok (.getfield 35, 3) := by decide +kernel
theorem dX12_askingLine_162 : decode cX12_askingLine 162 = .ok (.iconst 0, 1) := by decide +kernel
theorem dX12_askingLine_163 : decode cX12_askingLine 163 = .ok (.bipush 8, 2) := by decide +kernel
theorem dX12_askingLine_165 : decode cX12_askingLine 165 = .ok (.iload 5, 2) := by decide +kernel
theorem dX12_askingLine_167 : decode cX12_askingLine 167 = .ok (.iconst 1, 1) := by decide +kernel
theorem dX12_askingLine_168 : decode cX12_askingLine 168 = .ok (.iadd, 1) := by decide +kernel
theorem dX12_askingLine_169 : decode cX12_askingLine 169 = .ok (.invokestatic 150, 3) := by decide +kernel
theorem dX12_askingLine_172 : decode cX12_askingLine 172 = .ok (.iastore, 1) := by decide +kernel
theorem dX12_askingLine_173 : decode cX12_askingLine 173 = .ok (.iconst 1, 1) := by decide +kernel
theorem dX12_askingLine_174 : decode cX12_askingLine 174 = .ok (.ireturn, 1) := by decide +kernel
theorem dX12_huntLine_0 : decode cX12_huntLine 0 = .ok (.lload_n 1, 1) := by decide +kernel
theorem dX12_huntLine_1 : decode cX12_huntLine 1 = .ok (.ldc2_w 226, 3) := by decide +kernel
theorem dX12_huntLine_4 : decode cX12_huntLine 4 = .ok (.lcmp, 1) := by decide +kernel
theorem dX12_huntLine_5 : decode cX12_huntLine 5 = .ok (.ifCond .eq 16, 3) := by decide +kernel
theorem dX12_huntLine_8 : decode cX12_huntLine 8 = .ok (.lload_n 1, 1) := by decide +kernel
theorem dX12_huntLine_9 : decode cX12_huntLine 9 = .ok (.ldc2_w 228, 3) := by decide +kernel
theorem dX12_huntLine_12 : decode cX12_huntLine 12 = .ok (.lcmp, 1) := by decide +kernel
theorem dX12_huntLine_13 : decode cX12_huntLine 13 = .ok (.ifCond .eq 8, 3) := by decide +kernel
theorem dX12_huntLine_16 : decode cX12_huntLine 16 = .ok (.aload_n 0, 1) := by decide +kernel
theorem dX12_huntLine_17 : decode cX12_huntLine 17 = .ok (.invokevirtual 112, 3) := by decide +kernel
theorem dX12_huntLine_20 : decode cX12_huntLine 20 = .ok (.ireturn, 1) := by decide +kernel
theorem dX12_huntLine_21 : decode cX12_huntLine 21 = .ok (.aload_n 0, 1) := by decide +kernel
theorem dX12_huntLine_22 : decode cX12_huntLine 22 = .ok (.getfield 35, 3) := by decide +kernel
theorem dX12_huntLine_25 : decode cX12_huntLine 25 = .ok (.iconst 0, 1) := by decide +kernel
theorem dX12_huntLine_26 : decode cX12_huntLine 26 = .ok (.iaload, 1) := by decide +kernel
theorem dX12_huntLine_27 : decode cX12_huntLine 27 = .ok (.istore 4, 2) := by decide +kernel
theorem dX12_huntLine_29 : decode cX12_huntLine 29 = .ok (.iload 4, 2) := by decide +kernel
theorem dX12_huntLine_31 : decode cX12_huntLine 31 = .ok (.bipush 8, 2) := by decide +kernel
theorem dX12_huntLine_33 : decode cX12_huntLine 33 = .ok (.if_icmp .ne 9, 3) := by decide +kernel
theorem dX12_huntLine_36 : decode cX12_huntLine 36 = .ok (.aload_n 0, 1) := by decide +kernel
theorem dX12_huntLine_37 : decode cX12_huntLine 37 = .ok (.iconst 3, 1) := by decide +kernel
theorem dX12_huntLine_38 : decode cX12_huntLine 38 = .ok (.iload_n 3, 1) := by decide +kernel
theorem dX12_huntLine_39 : decode cX12_huntLine 39 = .ok (.invokevirtual 116, 3) := by decide +kernel
theorem dX12_huntLine_42 : decode cX12_huntLine 42 = .ok (.aload_n 0, 1) := by decide +kernel
theorem dX12_huntLine_43 : decode cX12_huntLine 43 = .ok (.invokevirtual 124, 3) := by decide +kernel
theorem dX12_huntLine_46 : decode cX12_huntLine 46 = .ok (.aload_n 0, 1) := by decide +kernel
theorem dX12_huntLine_47 : decode cX12_huntLine 47 = .ok (.iconst 1, 1) := by decide +kernel
theorem dX12_huntLine_48 : decode cX12_huntLine 48 = .ok (.iconst 0, 1) := by decide +kernel
theorem dX12_huntLine_49 : decode cX12_huntLine 49 = .ok (.iconst 3, 1) := by decide +kernel
theorem dX12_huntLine_50 : decode cX12_huntLine 50 = .ok (.invokevirtual 177, 3) := by decide +kernel
theorem dX12_huntLine_53 : decode cX12_huntLine 53 = .ok (.ifCond .eq 14, 3) := by decide +kernel
theorem dX12_huntLine_56 : decode cX12_huntLine 56 = .ok (.aload_n 0, 1) := by decide +kernel
theorem dX12_huntLine_57 : decode cX12_huntLine 57 = .ok (.iconst 2, 1) := by decide +kernel
theorem dX12_huntLine_58 : decode cX12_huntLine 58 = .ok (.iconst 0, 1) := by decide +kernel
theorem dX12_huntLine_59 : decode cX12_huntLine 59 = .ok (.bipush 9, 2) := by decide +kernel
theorem dX12_huntLine_61 : decode cX12_huntLine 61 = .ok (.invokevirtual 177, 3) := by decide +kernel
theorem dX12_huntLine_64 : decode cX12_huntLine 64 = .ok (.ifCond .ne 5, 3) := by decide +kernel
theorem dX12_huntLine_67 : decode cX12_huntLine 67 = .ok (.iconst 0, 1) := by decide +kernel
theorem dX12_huntLine_68 : decode cX12_huntLine 68 = .ok (.ireturn, 1) := by decide +kernel
theorem dX12_huntLine_69 : decode cX12_huntLine 69 = .ok (.aload_n 0, 1) := by decide +kernel
theorem dX12_huntLine_70 : decode cX12_huntLine 70 = .ok (.getfield 38, 3) := by decide +kernel
theorem dX12_huntLine_73 : decode cX12_huntLine 73 = .ok (.iconst 0, 1) := by decide +kernel
theorem dX12_huntLine_74 : decode cX12_huntLine 74 = .ok (.lload_n 1, 1) := by decide +kernel
theorem dX12_huntLine_75 : decode cX12_huntLine 75 = .ok (.ldc2_w 226, 3) := by decide +kernel
theorem dX12_huntLine_78 : decode cX12_huntLine 78 = .ok (.lcmp, 1) := by decide +kernel
theorem dX12_huntLine_79 : decode cX12_huntLine 79 = .ok (.ifCond .ne 7, 3) := by decide +kernel
theorem dX12_huntLine_82 : decode cX12_huntLine 82 = .ok (.iconst 1, 1) := by decide +kernel
theorem dX12_huntLine_83 : decode cX12_huntLine 83 = .ok (.goto 4, 3) := by decide +kernel
theorem dX12_huntLine_86 : decode cX12_huntLine 86 = .ok (.iconst 0, 1) := by decide +kernel
theorem dX12_huntLine_87 : decode cX12_huntLine 87 = .ok (.iastore, 1) := by decide +kernel
theorem dX12_huntLine_88 : decode cX12_huntLine 88 = .ok (.iconst 0, 1) := by decide +kernel
theorem dX12_huntLine_89 : decode cX12_huntLine 89 = .ok (.istore 5, 2) := by decide +kernel
theorem dX12_huntLine_91 : decode cX12_huntLine 91 = .ok (.iload 5, 2) := by decide +kernel
theorem dX12_huntLine_93 : decode cX12_huntLine 93 = .ok (.iconst 3, 1) := by decide +kernel
theorem dX12_huntLine_94 : decode cX12_huntLine 94 = .ok (.if_icmp .ge 37, 3) := by decide +kernel
theorem dX12_huntLine_97 : decode cX12_huntLine 97 = .ok (.iload 4, 2) := by decide +kernel
theorem dX12_huntLine_99 : decode cX12_huntLine 99 = .ok (.bipush 8, 2) := by decide +kernel
theorem dX12_huntLine_101 : decode cX12_huntLine 101 = .ok (.if_icmp .ge 30, 3) := by decide +kernel
theorem dX12_huntLine_104 : decode cX12_huntLine 104 = .ok (.aload_n 0, 1) := by decide +kernel
theorem dX12_huntLine_105 : decode cX12_huntLine 105 = .ok (.getfield 35, 3) := by decide +kernel
theorem dX12_huntLine_108 : decode cX12_huntLine 108 = .ok (.iconst 1, 1) := by decide +kernel
theorem dX12_huntLine_109 : decode cX12_huntLine 109 = .ok (.iconst 3, 1) := by decide +kernel
theorem dX12_huntLine_110 : decode cX12_huntLine 110 = .ok (.iload 4, 2) := by decide +kernel
theorem dX12_huntLine_112 : decode cX12_huntLine 112 = .ok (.imul, 1) := by decide +kernel
theorem dX12_huntLine_113 : decode cX12_huntLine 113 = .ok (.iadd, 1) := by decide +kernel
theorem dX12_huntLine_114 : decode cX12_huntLine 114 = .ok (.iload 5, 2) := by decide +kernel
theorem dX12_huntLine_116 : decode cX12_huntLine 116 = .ok (.iadd, 1) := by decide +kernel
theorem dX12_huntLine_117 : decode cX12_huntLine 117 = .ok (.aload_n 0, 1) := by decide +kernel
theorem dX12_huntLine_118 : decode cX12_huntLine 118 = .ok (.getfield 38, 3) := by decide +kernel
theorem dX12_huntLine_121 : decode cX12_huntLine 121 = .ok (.iload 5, 2) := by decide +kernel
theorem dX12_huntLine_123 : decode cX12_huntLine 123 = .ok (.iaload, 1) := by decide +kernel
theorem dX12_huntLine_124 : decode cX12_huntLine 124 = .ok (.iastore, 1) := by decide +kernel
theorem dX12_huntLine_125 : decode cX12_huntLine 125 = .ok (.iinc 5 1, 3) := by decide +kernel
theorem dX12_huntLine_128 : decode cX12_huntLine 128 = .ok (.goto (-37), 3) := by decide +kernel
theorem dX12_huntLine_131 : decode cX12_huntLine 131 = .ok (.aload_n 0, 1) := by decide +kernel
theorem dX12_huntLine_132 : decode cX12_huntLine 132 = .ok (.getfield 35, 3) := by decide +kernel
theorem dX12_huntLine_135 : decode cX12_huntLine 135 = .ok (.iconst 0, 1) := by decide +kernel
theorem dX12_huntLine_136 : decode cX12_huntLine 136 = .ok (.bipush 8, 2) := by decide +kernel
theorem dX12_huntLine_138 : decode cX12_huntLine 138 = .ok (.iload 4, 2) := by decide +kernel
theorem dX12_huntLine_140 : decode cX12_huntLine 140 = .ok (.iconst 1, 1) := by decide +kernel
theorem dX12_huntLine_141 : decode cX12_huntLine 141 = .ok (.iadd, 1) := by decide +kernel
theorem dX12_huntLine_142 : decode cX12_huntLine 142 = .ok (.invokestatic 150, 3) := by decide +kernel
theorem dX12_huntLine_145 : decode cX12_huntLine 145 = .ok (.iastore, 1) := by decide +kernel
theorem dX12_huntLine_146 : decode cX12_huntLine 146 = .ok (.iconst 1, 1) := by decide +kernel
theorem dX12_huntLine_147 : decode cX12_huntLine 147 = .ok (.ireturn, 1) := by decide +kernel
theorem dX12_allLines_0 : decode cX12_allLines 0 = .ok (.iconst 1, 1) := by decide +kernel
theorem dX12_allLines_1 : decode cX12_allLines 1 = .ok (.istore_n 2, 1) := by decide +kernel
theorem dX12_allLines_2 : decode cX12_allLines 2 = .ok (.aload_n 0, 1) := by decide +kernel
theorem dX12_allLines_3 : decode cX12_allLines 3 = .ok (.iconst 0, 1) := by decide +kernel
theorem dX12_allLines_4 : decode cX12_allLines 4 = .ok (.putfield 143, 3) := by decide +kernel
theorem dX12_allLines_7 : decode cX12_allLines 7 = .ok (.iload_n 2, 1) := by decide +kernel
theorem dX12_allLines_8 : decode cX12_allLines 8 = .ok (.ifCond .eq 118, 3) := by decide +kernel
theorem dX12_allLines_11 : decode cX12_allLines 11 = .ok (.aload_n 0, 1) := by decide +kernel
theorem dX12_allLines_12 : decode cX12_allLines 12 = .ok (.getfield 97, 3) := by decide +kernel
theorem dX12_allLines_15 : decode cX12_allLines 15 = .ok (.ifCond .eq 111, 3) := by decide +kernel
theorem dX12_allLines_18 : decode cX12_allLines 18 = .ok (.aload_n 0, 1) := by decide +kernel
theorem dX12_allLines_19 : decode cX12_allLines 19 = .ok (.getfield 90, 3) := by decide +kernel
theorem dX12_allLines_22 : decode cX12_allLines 22 = .ok (.istore_n 3, 1) := by decide +kernel
theorem dX12_allLines_23 : decode cX12_allLines 23 = .ok (.aload_n 0, 1) := by decide +kernel
theorem dX12_allLines_24 : decode cX12_allLines 24 = .ok (.getfield 97, 3) := by decide +kernel
theorem dX12_allLines_27 : decode cX12_allLines 27 = .ok (.iconst 2, 1) := by decide +kernel
theorem dX12_allLines_28 : decode cX12_allLines 28 = .ok (.if_icmp .ne 10, 3) := by decide +kernel
theorem dX12_allLines_31 : decode cX12_allLines 31 = .ok (.aload_n 0, 1) := by decide +kernel
theorem dX12_allLines_32 : decode cX12_allLines 32 = .ok (.getfield 93, 3) := by decide +kernel
theorem dX12_allLines_35 : decode cX12_allLines 35 = .ok (.goto 4, 3) := by decide +kernel
theorem dX12_allLines_38 : decode cX12_allLines 38 = .ok (.lconst 0, 1) := by decide +kernel
theorem dX12_allLines_39 : decode cX12_allLines 39 = .ok (.lstore 4, 2) := by decide +kernel
theorem dX12_allLines_41 : decode cX12_allLines 41 = .ok (.aload_n 0, 1) := by decide +kernel
theorem dX12_allLines_42 : decode cX12_allLines 42 = .ok (.iconst 1, 1) := by decide +kernel
theorem dX12_allLines_43 : decode cX12_allLines 43 = .ok (.putfield 120, 3) := by decide +kernel
theorem dX12_allLines_46 : decode cX12_allLines 46 = .ok (.aload_n 0, 1) := by decide +kernel
theorem dX12_allLines_47 : decode cX12_allLines 47 = .ok (.iconst 0, 1) := by decide +kernel
theorem dX12_allLines_48 : decode cX12_allLines 48 = .ok (.putfield 129, 3) := by decide +kernel
theorem dX12_allLines_51 : decode cX12_allLines 51 = .ok (.iload_n 1, 1) := by decide +kernel
theorem dX12_allLines_52 : decode cX12_allLines 52 = .ok (.ifCond .ne 13, 3) := by decide +kernel
theorem dX12_allLines_55 : decode cX12_allLines 55 = .ok (.aload_n 0, 1) := by decide +kernel
theorem dX12_allLines_56 : decode cX12_allLines 56 = .ok (.lload 4, 2) := by decide +kernel
theorem dX12_allLines_58 : decode cX12_allLines 58 = .ok (.iload_n 3, 1) := by decide +kernel
theorem dX12_allLines_59 : decode cX12_allLines 59 = .ok (.invokevirtual 230, 3) := by decide +kernel
theorem dX12_allLines_62 : decode cX12_allLines 62 = .ok (.goto 25, 3) := by decide +kernel
theorem dX12_allLines_65 : decode cX12_allLines 65 = .ok (.iload_n 1, 1) := by decide +kernel
theorem dX12_allLines_66 : decode cX12_allLines 66 = .ok (.iconst 1, 1) := by decide +kernel
theorem dX12_allLines_67 : decode cX12_allLines 67 = .ok (.if_icmp .ne 13, 3) := by decide +kernel
theorem dX12_allLines_70 : decode cX12_allLines 70 = .ok (.aload_n 0, 1) := by decide +kernel
theorem dX12_allLines_71 : decode cX12_allLines 71 = .ok (.lload 4, 2) := by decide +kernel
theorem dX12_allLines_73 : decode cX12_allLines 73 = .ok (.iload_n 3, 1) := by decide +kernel
theorem dX12_allLines_74 : decode cX12_allLines 74 = .ok (.invokevirtual 234, 3) := by decide +kernel
theorem dX12_allLines_77 : decode cX12_allLines 77 = .ok (.goto 10, 3) := by decide +kernel
theorem dX12_allLines_80 : decode cX12_allLines 80 = .ok (.aload_n 0, 1) := by decide +kernel
theorem dX12_allLines_81 : decode cX12_allLines 81 = .ok (.lload 4, 2) := by decide +kernel
theorem dX12_allLines_83 : decode cX12_allLines 83 = .ok (.iload_n 3, 1) := by decide +kernel
theorem dX12_allLines_84 : decode cX12_allLines 84 = .ok (.invokevirtual 237, 3) := by decide +kernel
theorem dX12_allLines_87 : decode cX12_allLines 87 = .ok (.istore_n 2, 1) := by decide +kernel
theorem dX12_allLines_88 : decode cX12_allLines 88 = .ok (.iload_n 2, 1) := by decide +kernel
theorem dX12_allLines_89 : decode cX12_allLines 89 = .ok (.ifCond .eq 16, 3) := by decide +kernel
theorem dX12_allLines_92 : decode cX12_allLines 92 = .ok (.aload_n 0, 1) := by decide +kernel
theorem dX12_allLines_93 : decode cX12_allLines 93 = .ok (.getfield 97, 3) := by decide +kernel
theorem dX12_allLines_96 : decode cX12_allLines 96 = .ok (.iconst 4, 1) := by decide +kernel
theorem dX12_allLines_97 : decode cX12_allLines 97 = .ok (.if_icmp .eq 8, 3) := by decide +kernel
theorem dX12_allLines_100 : decode cX12_allLines 100 = .ok (.aload_n 0, 1) := by decide +kernel
theorem dX12_allLines_101 : decode cX12_allLines 101 = .ok (.invokevirtual 112, 3) := by decide +kernel
theorem dX12_allLines_104 : decode cX12_allLines 104 = .ok (.istore_n 2, 1) := by decide +kernel
theorem dX12_allLines_105 : decode cX12_allLines 105 = .ok (.iload_n 2, 1) := by decide +kernel
theorem dX12_allLines_106 : decode cX12_allLines 106 = .ok (.ifCond .eq 17, 3) := by decide +kernel
theorem dX12_allLines_109 : decode cX12_allLines 109 = .ok (.aload_n 0, 1) := by decide +kernel
theorem dX12_allLines_110 : decode cX12_allLines 110 = .ok (.invokevirtual 124, 3) := by decide +kernel
theorem dX12_allLines_113 : decode cX12_allLines 113 = .ok (.aload_n 0, 1) := by decide +kernel
theorem dX12_allLines_114 : decode cX12_allLines 114 = .ok (.dup, 1) := by decide +kernel
theorem dX12_allLines_115 : decode cX12_allLines 115 = .ok (.getfield 143, 3) := by decide +kernel
theorem dX12_allLines_118 : decode cX12_allLines 118 = .ok (.iconst 1, 1) := by decide +kernel
theorem dX12_allLines_119 : decode cX12_allLines 119 = .ok (.iadd, 1) := by decide +kernel
theorem dX12_allLines_120 : decode cX12_allLines 120 = .ok (.putfield 143, 3) := by decide +kernel
theorem dX12_allLines_123 : decode cX12_allLines 123 = .ok (.goto (-116), 3) := by decide +kernel
theorem dX12_allLines_126 : decode cX12_allLines 126 = .ok (.iload_n 2, 1) := by decide +kernel
theorem dX12_allLines_127 : decode cX12_allLines 127 = .ok (.ireturn, 1) := by decide +kernel
theorem dX12_readText_0 : decode cX12_readText 0 = .ok (.iconst 0, 1) := by decide +kernel
theorem dX12_readText_1 : decode cX12_readText 1 = .ok (.istore_n 2, 1) := by decide +kernel
theorem dX12_readText_2 : decode cX12_readText 2 = .ok (.iload_n 2, 1) := by decide +kernel
theorem dX12_readText_3 : decode cX12_readText 3 = .ok (.sipush 1526, 3) := by decide +kernel
theorem dX12_readText_6 : decode cX12_readText 6 = .ok (.if_icmp .ge 16, 3) := by decide +kernel
theorem dX12_readText_9 : decode cX12_readText 9 = .ok (.aload_n 0, 1) := by decide +kernel
theorem dX12_readText_10 : decode cX12_readText 10 = .ok (.getfield 35, 3) := by decide +kernel
theorem dX12_readText_13 : decode cX12_readText 13 = .ok (.iload_n 2, 1) := by decide +kernel
theorem dX12_readText_14 : decode cX12_readText 14 = .ok (.iconst 0, 1) := by decide +kernel
theorem dX12_readText_15 : decode cX12_readText 15 = .ok (.iastore, 1) := by decide +kernel
theorem dX12_readText_16 : decode cX12_readText 16 = .ok (.iinc 2 1, 3) := by decide +kernel
theorem dX12_readText_19 : decode cX12_readText 19 = .ok (.goto (-17), 3) := by decide +kernel
theorem dX12_readText_22 : decode cX12_readText 22 = .ok (.aload_n 0, 1) := by decide +kernel
theorem dX12_readText_23 : decode cX12_readText 23 = .ok (.iconst 0, 1) := by decide +kernel
theorem dX12_readText_24 : decode cX12_readText 24 = .ok (.putfield 80, 3) := by decide +kernel
theorem dX12_readText_27 : decode cX12_readText 27 = .ok (.aload_n 0, 1) := by decide +kernel
theorem dX12_readText_28 : decode cX12_readText 28 = .ok (.iconst 0, 1) := by decide +kernel
theorem dX12_readText_29 : decode cX12_readText 29 = .ok (.putfield 106, 3) := by decide +kernel
theorem dX12_readText_32 : decode cX12_readText 32 = .ok (.aload_n 0, 1) := by decide +kernel
theorem dX12_readText_33 : decode cX12_readText 33 = .ok (.invokevirtual 124, 3) := by decide +kernel
theorem dX12_readText_36 : decode cX12_readText 36 = .ok (.aload_n 0, 1) := by decide +kernel
theorem dX12_readText_37 : decode cX12_readText 37 = .ok (.iload_n 1, 1) := by decide +kernel
theorem dX12_readText_38 : decode cX12_readText 38 = .ok (.invokevirtual 240, 3) := by decide +kernel
theorem dX12_readText_41 : decode cX12_readText 41 = .ok (.istore_n 2, 1) := by decide +kernel
theorem dX12_readText_42 : decode cX12_readText 42 = .ok (.aload_n 0, 1) := by decide +kernel
theorem dX12_readText_43 : decode cX12_readText 43 = .ok (.getfield 17, 3) := by decide +kernel
theorem dX12_readText_46 : decode cX12_readText 46 = .ok (.iconst 0, 1) := by decide +kernel
theorem dX12_readText_47 : decode cX12_readText 47 = .ok (.iload_n 2, 1) := by decide +kernel
theorem dX12_readText_48 : decode cX12_readText 48 = .ok (.ifCond .eq 10, 3) := by decide +kernel
theorem dX12_readText_51 : decode cX12_readText 51 = .ok (.aload_n 0, 1) := by decide +kernel
theorem dX12_readText_52 : decode cX12_readText 52 = .ok (.getfield 106, 3) := by decide +kernel
theorem dX12_readText_55 : decode cX12_readText 55 = .ok (.goto 4, 3) := by decide +kernel
theorem dX12_readText_58 : decode cX12_readText 58 = .ok (.iconst 1, 1) := by decide +kernel
theorem dX12_readText_59 : decode cX12_readText 59 = .ok (.iastore, 1) := by decide +kernel
theorem dX12_readText_60 : decode cX12_readText 60 = .ok (.aload_n 0, 1) := by decide +kernel
theorem dX12_readText_61 : decode cX12_readText 61 = .ok (.getfield 20, 3) := by decide +kernel
theorem dX12_readText_64 : decode cX12_readText 64 = .ok (.iconst 0, 1) := by decide +kernel
theorem dX12_readText_65 : decode cX12_readText 65 = .ok (.iload_n 2, 1) := by decide +kernel
theorem dX12_readText_66 : decode cX12_readText 66 = .ok (.ifCond .ne 10, 3) := by decide +kernel
theorem dX12_readText_69 : decode cX12_readText 69 = .ok (.aload_n 0, 1) := by decide +kernel
theorem dX12_readText_70 : decode cX12_readText 70 = .ok (.getfield 103, 3) := by decide +kernel
theorem dX12_readText_73 : decode cX12_readText 73 = .ok (.goto 18, 3) := by decide +kernel
theorem dX12_readText_76 : decode cX12_readText 76 = .ok (.aload_n 0, 1) := by decide +kernel
theorem dX12_readText_77 : decode cX12_readText 77 = .ok (.getfield 106, 3) := by decide +kernel
theorem dX12_readText_80 : decode cX12_readText 80 = .ok (.ifCond .le 10, 3) := by decide +kernel
theorem dX12_readText_83 : decode cX12_readText 83 = .ok (.aload_n 0, 1) := by decide +kernel
theorem dX12_readText_84 : decode cX12_readText 84 = .ok (.getfield 109, 3) := by decide +kernel
theorem dX12_readText_87 : decode cX12_readText 87 = .ok (.goto 4, 3) := by decide +kernel
theorem dX12_readText_90 : decode cX12_readText 90 = .ok (.iconst (-1), 1) := by decide +kernel
theorem dX12_readText_91 : decode cX12_readText 91 = .ok (.iastore, 1) := by decide +kernel
theorem dX12_readText_92 : decode cX12_readText 92 = .ok (.aload_n 0, 1) := by decide +kernel
theorem dX12_readText_93 : decode cX12_readText 93 = .ok (.getfield 17, 3) := by decide +kernel
theorem dX12_readText_96 : decode cX12_readText 96 = .ok (.iconst 0, 1) := by decide +kernel
theorem dX12_readText_97 : decode cX12_readText 97 = .ok (.iaload, 1) := by decide +kernel
theorem dX12_readText_98 : decode cX12_readText 98 = .ok (.ifCond .ne 7, 3) := by decide +kernel
theorem dX12_readText_101 : decode cX12_readText 101 = .ok (.iconst 1, 1) := by decide +kernel
theorem dX12_readText_102 : decode cX12_readText 102 = .ok (.goto 4, 3) := by decide +kernel
theorem dX12_readText_105 : decode cX12_readText 105 = .ok (.iconst 0, 1) := by decide +kernel
theorem dX12_readText_106 : decode cX12_readText 106 = .ok (.ireturn, 1) := by decide +kernel
theorem dX12_store_0 : decode cX12_store 0 = .ok (.iconst 0, 1) := by decide +kernel
theorem dX12_store_1 : decode cX12_store 1 = .ok (.istore 4, 2) := by decide +kernel
theorem dX12_store_3 : decode cX12_store 3 = .ok (.iload 4, 2) := by decide +kernel
theorem dX12_store_5 : decode cX12_store 5 = .ok (.iload_n 2, 1) := by decide +kernel
theorem dX12_store_6 : decode cX12_store 6 = .ok (.if_icmp .ge 24, 3) := by decide +kernel
theorem dX12_store_9 : decode cX12_store 9 = .ok (.aload_n 1, 1) := by decide +kernel
theorem dX12_store_10 : decode cX12_store 10 = .ok (.iload_n 2, 1) := by decide +kernel
theorem dX12_store_11 : decode cX12_store 11 = .ok (.iload_n 3, 1) := by decide +kernel
theorem dX12_store_12 : decode cX12_store 12 = .ok (.imul, 1) := by decide +kernel
theorem dX12_store_13 : decode cX12_store 13 = .ok (.iload 4, 2) := by decide +kernel
theorem dX12_store_15 : decode cX12_store 15 = .ok (.iadd, 1) := by decide +kernel
theorem dX12_store_16 : decode cX12_store 16 = .ok (.aload_n 0, 1) := by decide +kernel
theorem dX12_store_17 : decode cX12_store 17 = .ok (.getfield 35, 3) := by decide +kernel
theorem dX12_store_20 : decode cX12_store 20 = .ok (.iload 4, 2) := by decide +kernel
theorem dX12_store_22 : decode cX12_store 22 = .ok (.iaload, 1) := by decide +kernel
theorem dX12_store_23 : decode cX12_store 23 = .ok (.iastore, 1) := by decide +kernel
theorem dX12_store_24 : decode cX12_store 24 = .ok (.iinc 4 1, 3) := by decide +kernel
theorem dX12_store_27 : decode cX12_store 27 = .ok (.goto (-24), 3) := by decide +kernel
theorem dX12_store_30 : decode cX12_store 30 = .ok (.return_, 1) := by decide +kernel
theorem dX12_text_0 : decode cX12_text 0 = .ok (.aload_n 0, 1) := by decide +kernel
theorem dX12_text_1 : decode cX12_text 1 = .ok (.iconst 0, 1) := by decide +kernel
theorem dX12_text_2 : decode cX12_text 2 = .ok (.putfield 60, 3) := by decide +kernel
theorem dX12_text_5 : decode cX12_text 5 = .ok (.aload_n 0, 1) := by decide +kernel
theorem dX12_text_6 : decode cX12_text 6 = .ok (.aload_n 0, 1) := by decide +kernel
theorem dX12_text_7 : decode cX12_text 7 = .ok (.getfield 13, 3) := by decide +kernel
theorem dX12_text_10 : decode cX12_text 10 = .ok (.iconst 0, 1) := by decide +kernel
theorem dX12_text_11 : decode cX12_text 11 = .ok (.iaload, 1) := by decide +kernel
theorem dX12_text_12 : decode cX12_text 12 = .ok (.putfield 83, 3) := by decide +kernel
theorem dX12_text_15 : decode cX12_text 15 = .ok (.aload_n 0, 1) := by decide +kernel
theorem dX12_text_16 : decode cX12_text 16 = .ok (.getfield 13, 3) := by decide +kernel
theorem dX12_text_19 : decode cX12_text 19 = .ok (.iconst 0, 1) := by decide +kernel
theorem dX12_text_20 : decode cX12_text 20 = .ok (.iconst 0, 1) := by decide +kernel
theorem dX12_text_21 : decode cX12_text 21 = .ok (.iastore, 1) := by decide +kernel
theorem dX12_text_22 : decode cX12_text 22 = .ok (.aload_n 0, 1) := by decide +kernel
theorem dX12_text_23 : decode cX12_text 23 = .ok (.getfield 17, 3) := by decide +kernel
theorem dX12_text_26 : decode cX12_text 26 = .ok (.iconst 0, 1) := by decide +kernel
theorem dX12_text_27 : decode cX12_text 27 = .ok (.iconst 0, 1) := by decide +kernel
theorem dX12_text_28 : decode cX12_text 28 = .ok (.iastore, 1) := by decide +kernel
theorem dX12_text_29 : decode cX12_text 29 = .ok (.aload_n 0, 1) := by decide +kernel
theorem dX12_text_30 : decode cX12_text 30 = .ok (.getfield 20, 3) := by decide +kernel
theorem dX12_text_33 : decode cX12_text 33 = .ok (.iconst 0, 1) := by decide +kernel
theorem dX12_text_34 : decode cX12_text 34 = .ok (.iconst (-1), 1) := by decide +kernel
theorem dX12_text_35 : decode cX12_text 35 = .ok (.iastore, 1) := by decide +kernel
theorem dX12_text_36 : decode cX12_text 36 = .ok (.iload_n 1, 1) := by decide +kernel
theorem dX12_text_37 : decode cX12_text 37 = .ok (.iconst 0, 1) := by decide +kernel
theorem dX12_text_38 : decode cX12_text 38 = .ok (.iconst 2, 1) := by decide +kernel
theorem dX12_text_39 : decode cX12_text 39 = .ok (.invokestatic 72, 3) := by decide +kernel
theorem dX12_text_42 : decode cX12_text 42 = .ok (.ifCond .eq 30, 3) := by decide +kernel
theorem dX12_text_45 : decode cX12_text 45 = .ok (.iload_n 2, 1) := by decide +kernel
theorem dX12_text_46 : decode cX12_text 46 = .ok (.iconst (-1), 1) := by decide +kernel
theorem dX12_text_47 : decode cX12_text 47 = .ok (.if_icmp .ne 16, 3) := by decide +kernel
theorem dX12_text_50 : decode cX12_text 50 = .ok (.aload_n 0, 1) := by decide +kernel
theorem dX12_text_51 : decode cX12_text 51 = .ok (.getfield 23, 3) := by decide +kernel
theorem dX12_text_54 : decode cX12_text 54 = .ok (.iload_n 1, 1) := by decide +kernel
theorem dX12_text_55 : decode cX12_text 55 = .ok (.iaload, 1) := by decide +kernel
theorem dX12_text_56 : decode cX12_text 56 = .ok (.iconst 2, 1) := by decide +kernel
theorem dX12_text_57 : decode cX12_text 57 = .ok (.if_icmp .ne 18, 3) := by decide +kernel
theorem dX12_text_60 : decode cX12_text 60 = .ok (.goto 12, 3) := by decide +kernel
theorem dX12_text_63 : decode cX12_text 63 = .ok (.aload_n 0, 1) := by decide +kernel
theorem dX12_text_64 : decode cX12_text 64 = .ok (.iload_n 1, 1) := by decide +kernel
theorem dX12_text_65 : decode cX12_text 65 = .ok (.iload_n 2, 1) := by decide +kernel
theorem dX12_text_66 : decode cX12_text 66 = .ok (.invokevirtual 243, 3) := by decide +kernel
theorem dX12_text_69 : decode cX12_text 69 = .ok (.ifCond .ne 6, 3) := by decide +kernel
theorem dX12_text_72 : decode cX12_text 72 = .ok (.bipush (-2), 2) := by decide +kernel
theorem dX12_text_74 : decode cX12_text 74 = .ok (.ireturn, 1) := by decide +kernel
theorem dX12_text_75 : decode cX12_text 75 = .ok (.aload_n 0, 1) := by decide +kernel
theorem dX12_text_76 : decode cX12_text 76 = .ok (.iload_n 1, 1) := by decide +kernel
theorem dX12_text_77 : decode cX12_text 77 = .ok (.invokevirtual 246, 3) := by decide +kernel
theorem dX12_text_80 : decode cX12_text 80 = .ok (.ifCond .ne 5, 3) := by decide +kernel
theorem dX12_text_83 : decode cX12_text 83 = .ok (.iconst (-1), 1) := by decide +kernel
theorem dX12_text_84 : decode cX12_text 84 = .ok (.ireturn, 1) := by decide +kernel
theorem dX12_text_85 : decode cX12_text 85 = .ok (.iload_n 2, 1) := by decide +kernel
theorem dX12_text_86 : decode cX12_text 86 = .ok (.iconst (-1), 1) := by decide +kernel
theorem dX12_text_87 : decode cX12_text 87 = .ok (.if_icmp .ne 12, 3) := by decide +kernel
theorem dX12_text_90 : decode cX12_text 90 = .ok (.aload_n 0, 1) := by decide +kernel
theorem dX12_text_91 : decode cX12_text 91 = .ok (.getfield 23, 3) := by decide +kernel
theorem dX12_text_94 : decode cX12_text 94 = .ok (.iload_n 1, 1) := by decide +kernel
theorem dX12_text_95 : decode cX12_text 95 = .ok (.iaload, 1) := by decide +kernel
theorem dX12_text_96 : decode cX12_text 96 = .ok (.goto 4, 3) := by decide +kernel
theorem dX12_text_99 : decode cX12_text 99 = .ok (.iload_n 2, 1) := by decide +kernel
theorem dX12_text_100 : decode cX12_text 100 = .ok (.istore_n 3, 1) := by decide +kernel
theorem dX12_text_101 : decode cX12_text 101 = .ok (.aload_n 0, 1) := by decide +kernel
theorem dX12_text_102 : decode cX12_text 102 = .ok (.getfield 23, 3) := by decide +kernel
theorem dX12_text_105 : decode cX12_text 105 = .ok (.iload_n 1, 1) := by decide +kernel
theorem dX12_text_106 : decode cX12_text 106 = .ok (.dup2, 1) := by decide +kernel
theorem dX12_text_107 : decode cX12_text 107 = .ok (.iaload, 1) := by decide +kernel
theorem dX12_text_108 : decode cX12_text 108 = .ok (.iload_n 2, 1) := by decide +kernel
theorem dX12_text_109 : decode cX12_text 109 = .ok (.iconst (-1), 1) := by decide +kernel
theorem dX12_text_110 : decode cX12_text 110 = .ok (.if_icmp .ne 7, 3) := by decide +kernel
theorem dX12_text_113 : decode cX12_text 113 = .ok (.iconst 1, 1) := by decide +kernel
theorem dX12_text_114 : decode cX12_text 114 = .ok (.goto 4, 3) := by decide +kernel
theorem dX12_text_117 : decode cX12_text 117 = .ok (.iconst 0, 1) := by decide +kernel
theorem dX12_text_118 : decode cX12_text 118 = .ok (.iadd, 1) := by decide +kernel
theorem dX12_text_119 : decode cX12_text 119 = .ok (.iastore, 1) := by decide +kernel
theorem dX12_text_120 : decode cX12_text 120 = .ok (.iload_n 1, 1) := by decide +kernel
theorem dX12_text_121 : decode cX12_text 121 = .ok (.ifCond .ne 18, 3) := by decide +kernel
theorem dX12_text_124 : decode cX12_text 124 = .ok (.aload_n 0, 1) := by decide +kernel
theorem dX12_text_125 : decode cX12_text 125 = .ok (.aload_n 0, 1) := by decide +kernel
theorem dX12_text_126 : decode cX12_text 126 = .ok (.getfield 26, 3) := by decide +kernel
theorem dX12_text_129 : decode cX12_text 129 = .ok (.sipush 1526, 3) := by decide +kernel
theorem dX12_text_132 : decode cX12_text 132 = .ok (.iload_n 3, 1) := by decide +kernel
theorem dX12_text_133 : decode cX12_text 133 = .ok (.invokevirtual 249, 3) := by decide +kernel
theorem dX12_text_136 : decode cX12_text 136 = .ok (.goto 33, 3) := by decide +kernel
theorem dX12_text_139 : decode cX12_text 139 = .ok (.iload_n 1, 1) := by decide +kernel
theorem dX12_text_140 : decode cX12_text 140 = .ok (.iconst 1, 1) := by decide +kernel
theorem dX12_text_141 : decode cX12_text 141 = .ok (.if_icmp .ne 17, 3) := by decide +kernel
theorem dX12_text_144 : decode cX12_text 144 = .ok (.aload_n 0, 1) := by decide +kernel
theorem dX12_text_145 : decode cX12_text 145 = .ok (.aload_n 0, 1) := by decide +kernel
theorem dX12_text_146 : decode cX12_text 146 = .ok (.getfield 29, 3) := by decide +kernel
theorem dX12_text_149 : decode cX12_text 149 = .ok (.bipush 57, 2) := by decide +kernel
theorem dX12_text_151 : decode cX12_text 151 = .ok (.iload_n 3, 1) := by decide +kernel
theorem dX12_text_152 : decode cX12_text 152 = .ok (.invokevirtual 249, 3) := by decide +kernel
theorem dX12_text_155 : decode cX12_text 155 = .ok (.goto 14, 3) := by decide +kernel
theorem dX12_text_158 : decode cX12_text 158 = .ok (.aload_n 0, 1) := by decide +kernel
theorem dX12_text_159 : decode cX12_text 159 = .ok (.aload_n 0, 1) := by decide +kernel
theorem dX12_text_160 : decode cX12_text 160 = .ok (.getfield 32, 3) := by decide +kernel
theorem dX12_text_163 : decode cX12_text 163 = .ok (.bipush 25, 2) := by decide +kernel
theorem dX12_text_165 : decode cX12_text 165 = .ok (.iload_n 3, 1) := by decide +kernel
theorem dX12_text_166 : decode cX12_text 166 = .ok (.invokevirtual 249, 3) := by decide +kernel
theorem dX12_text_169 : decode cX12_text 169 = .ok (.iload_n 3, 1) := by decide +kernel
theorem dX12_text_170 : decode cX12_text 170 = .ok (.ireturn, 1) := by decide +kernel
theorem dX12_fault_0 : decode cX12_fault 0 = .ok (.aload_n 0, 1) := by decide +kernel
theorem dX12_fault_1 : decode cX12_fault 1 = .ok (.iconst 0, 1) := by decide +kernel
theorem dX12_fault_2 : decode cX12_fault 2 = .ok (.putfield 60, 3) := by decide +kernel
theorem dX12_fault_5 : decode cX12_fault 5 = .ok (.iload_n 1, 1) := by decide +kernel
theorem dX12_fault_6 : decode cX12_fault 6 = .ok (.ifCond .ne 12, 3) := by decide +kernel
theorem dX12_fault_9 : decode cX12_fault 9 = .ok (.aload_n 0, 1) := by decide +kernel
theorem dX12_fault_10 : decode cX12_fault 10 = .ok (.getfield 17, 3) := by decide +kernel
theorem dX12_fault_13 : decode cX12_fault 13 = .ok (.iconst 0, 1) := by decide +kernel
theorem dX12_fault_14 : decode cX12_fault 14 = .ok (.iaload, 1) := by decide +kernel
theorem dX12_fault_15 : decode cX12_fault 15 = .ok (.goto 18, 3) := by decide +kernel
theorem dX12_fault_18 : decode cX12_fault 18 = .ok (.iload_n 1, 1) := by decide +kernel
theorem dX12_fault_19 : decode cX12_fault 19 = .ok (.iconst 1, 1) := by decide +kernel
theorem dX12_fault_20 : decode cX12_fault 20 = .ok (.if_icmp .ne 12, 3) := by decide +kernel
theorem dX12_fault_23 : decode cX12_fault 23 = .ok (.aload_n 0, 1) := by decide +kernel
theorem dX12_fault_24 : decode cX12_fault 24 = .ok (.getfield 20, 3) := by decide +kernel
theorem dX12_fault_27 : decode cX12_fault 27 = .ok (.iconst 0, 1) := by decide +kernel
theorem dX12_fault_28 : decode cX12_fault 28 = .ok (.iaload, 1) := by decide +kernel
theorem dX12_fault_29 : decode cX12_fault 29 = .ok (.goto 4, 3) := by decide +kernel
theorem dX12_fault_32 : decode cX12_fault 32 = .ok (.iconst (-1), 1) := by decide +kernel
theorem dX12_fault_33 : decode cX12_fault 33 = .ok (.ireturn, 1) := by decide +kernel
theorem dX12_hand_0 : decode cX12_hand 0 = .ok (.aload_n 0, 1) := by decide +kernel
theorem dX12_hand_1 : decode cX12_hand 1 = .ok (.iconst 0, 1) := by decide +kernel
theorem dX12_hand_2 : decode cX12_hand 2 = .ok (.iload_n 1, 1) := by decide +kernel
theorem dX12_hand_3 : decode cX12_hand 3 = .ok (.invokevirtual 243, 3) := by decide +kernel
theorem dX12_hand_6 : decode cX12_hand 6 = .ok (.ifCond .ne 5, 3) := by decide +kernel
theorem dX12_hand_9 : decode cX12_hand 9 = .ok (.iconst 0, 1) := by decide +kernel
theorem dX12_hand_10 : decode cX12_hand 10 = .ok (.ireturn, 1) := by decide +kernel
theorem dX12_hand_11 : decode cX12_hand 11 = .ok (.iconst 0, 1) := by decide +kernel
theorem dX12_hand_12 : decode cX12_hand 12 = .ok (.istore_n 2, 1) := by decide +kernel
theorem dX12_hand_13 : decode cX12_hand 13 = .ok (.iload_n 2, 1) := by decide +kernel
theorem dX12_hand_14 : decode cX12_hand 14 = .ok (.sipush 1526, 3) := by decide +kernel
theorem dX12_hand_17 : decode cX12_hand 17 = .ok (.if_icmp .ge 27, 3) := by decide +kernel
theorem dX12_hand_20 : decode cX12_hand 20 = .ok (.aload_n 0, 1) := by decide +kernel
theorem dX12_hand_21 : decode cX12_hand 21 = .ok (.getfield 35, 3) := by decide +kernel
theorem dX12_hand_24 : decode cX12_hand 24 = .ok (.iload_n 2, 1) := by decide +kernel
theorem dX12_hand_25 : decode cX12_hand 25 = .ok (.aload_n 0, 1) := by decide +kernel
theorem dX12_hand_26 : decode cX12_hand 26 = .ok (.getfield 26, 3) := by decide +kernel
theorem dX12_hand_29 : decode cX12_hand 29 = .ok (.sipush 1526, 3) := by decide +kernel
theorem dX12_hand_32 : decode cX12_hand 32 = .ok (.iload_n 1, 1) := by decide +kernel
theorem dX12_hand_33 : decode cX12_hand 33 = .ok (.imul, 1) := by decide +kernel
theorem dX12_hand_34 : decode cX12_hand 34 = .ok (.iload_n 2, 1) := by decide +kernel
theorem dX12_hand_35 : decode cX12_hand 35 = .ok (.iadd, 1) := by decide +kernel
theorem dX12_hand_36 : decode cX12_hand 36 = .ok (.iaload, 1) := by decide +kernel
theorem dX12_hand_37 : decode cX12_hand 37 = .ok (.iastore, 1) := by decide +kernel
theorem dX12_hand_38 : decode cX12_hand 38 = .ok (.iinc 2 1, 3) := by decide +kernel
theorem dX12_hand_41 : decode cX12_hand 41 = .ok (.goto (-28), 3) := by decide +kernel
theorem dX12_hand_44 : decode cX12_hand 44 = .ok (.aload_n 0, 1) := by decide +kernel
theorem dX12_hand_45 : decode cX12_hand 45 = .ok (.aload_n 0, 1) := by decide +kernel
theorem dX12_hand_46 : decode cX12_hand 46 = .ok (.getfield 35, 3) := by decide +kernel
theorem dX12_hand_49 : decode cX12_hand 49 = .ok (.iconst 5, 1) := by decide +kernel
theorem dX12_hand_50 : decode cX12_hand 50 = .ok (.iaload, 1) := by decide +kernel
theorem dX12_hand_51 : decode cX12_hand 51 = .ok (.putfield 253, 3) := by decide +kernel
theorem dX12_hand_54 : decode cX12_hand 54 = .ok (.iconst 1, 1) := by decide +kernel
theorem dX12_hand_55 : decode cX12_hand 55 = .ok (.ireturn, 1) := by decide +kernel
theorem dX12_isDoc_0 : decode cX12_isDoc 0 = .ok (.iload_n 1, 1) := by decide +kernel
theorem dX12_isDoc_1 : decode cX12_isDoc 1 = .ok (.iconst 0, 1) := by decide +kernel
theorem dX12_isDoc_2 : decode cX12_isDoc 2 = .ok (.aload_n 0, 1) := by decide +kernel
theorem dX12_isDoc_3 : decode cX12_isDoc 3 = .ok (.getfield 35, 3) := by decide +kernel
theorem dX12_isDoc_6 : decode cX12_isDoc 6 = .ok (.iconst 0, 1) := by decide +kernel
theorem dX12_isDoc_7 : decode cX12_isDoc 7 = .ok (.iaload, 1) := by decide +kernel
theorem dX12_isDoc_8 : decode cX12_isDoc 8 = .ok (.iconst 1, 1) := by decide +kernel
theorem dX12_isDoc_9 : decode cX12_isDoc 9 = .ok (.isub, 1) := by decide +kernel
theorem dX12_isDoc_10 : decode cX12_isDoc 10 = .ok (.invokestatic 72, 3) := by decide +kernel
theorem dX12_isDoc_13 : decode cX12_isDoc 13 = .ok (.ireturn, 1) := by decide +kernel
theorem dX12_versions_0 : decode cX12_versions 0 = .ok (.aload_n 0, 1) := by decide +kernel
theorem dX12_versions_1 : decode cX12_versions 1 = .ok (.getfield 35, 3) := by decide +kernel
theorem dX12_versions_4 : decode cX12_versions 4 = .ok (.iconst 1, 1) := by decide +kernel
theorem dX12_versions_5 : decode cX12_versions 5 = .ok (.iload_n 1, 1) := by decide +kernel
theorem dX12_versions_6 : decode cX12_versions 6 = .ok (.iadd, 1) := by decide +kernel
theorem dX12_versions_7 : decode cX12_versions 7 = .ok (.iaload, 1) := by decide +kernel
theorem dX12_versions_8 : decode cX12_versions 8 = .ok (.ireturn, 1) := by decide +kernel
theorem dX12_isVersion_0 : decode cX12_isVersion 0 = .ok (.aload_n 0, 1) := by decide +kernel
theorem dX12_isVersion_1 : decode cX12_isVersion 1 = .ok (.iload_n 1, 1) := by decide +kernel
theorem dX12_isVersion_2 : decode cX12_isVersion 2 = .ok (.invokevirtual 256, 3) := by decide +kernel
theorem dX12_isVersion_5 : decode cX12_isVersion 5 = .ok (.ifCond .eq 22, 3) := by decide +kernel
theorem dX12_isVersion_8 : decode cX12_isVersion 8 = .ok (.iload_n 2, 1) := by decide +kernel
theorem dX12_isVersion_9 : decode cX12_isVersion 9 = .ok (.iconst 0, 1) := by decide +kernel
theorem dX12_isVersion_10 : decode cX12_isVersion 10 = .ok (.aload_n 0, 1) := by decide +kernel
theorem dX12_isVersion_11 : decode cX12_isVersion 11 = .ok (.iload_n 1, 1) := by decide +kernel
theorem dX12_isVersion_12 : decode cX12_isVersion 12 = .ok (.invokevirtual 259, 3) := by decide +kernel
theorem dX12_isVersion_15 : decode cX12_isVersion 15 = .ok (.iconst 1, 1) := by decide +kernel
theorem dX12_isVersion_16 : decode cX12_isVersion 16 = .ok (.isub, 1) := by decide +kernel
theorem dX12_isVersion_17 : decode cX12_isVersion 17 = .ok (.invokestatic 72, 3) := by decide +kernel
theorem dX12_isVersion_20 : decode cX12_isVersion 20 = .ok (.ifCond .eq 7, 3) := by decide +kernel
theorem dX12_isVersion_23 : decode cX12_isVersion 23 = .ok (.iconst 1, 1) := by decide +kernel
theorem dX12_isVersion_24 : decode cX12_isVersion 24 = .ok (.goto 4, 3) := by decide +kernel
theorem dX12_isVersion_27 : decode cX12_isVersion 27 = .ok (.iconst 0, 1) := by decide +kernel
theorem dX12_isVersion_28 : decode cX12_isVersion 28 = .ok (.ireturn, 1) := by decide +kernel
theorem dX12_longOf_0 : decode cX12_longOf 0 = .ok (.aload_n 0, 1) := by decide +kernel
theorem dX12_longOf_1 : decode cX12_longOf 1 = .ok (.getfield 35, 3) := by decide +kernel
theorem dX12_longOf_4 : decode cX12_longOf 4 = .ok (.bipush 46, 2) := by decide +kernel
theorem dX12_longOf_6 : decode cX12_longOf 6 = .ok (.iload_n 1, 1) := by decide +kernel
theorem dX12_longOf_7 : decode cX12_longOf 7 = .ok (.iload_n 2, 1) := by decide +kernel
theorem dX12_longOf_8 : decode cX12_longOf 8 = .ok (.invokestatic 146, 3) := by decide +kernel
theorem dX12_longOf_11 : decode cX12_longOf 11 = .ok (.iadd, 1) := by decide +kernel
theorem dX12_longOf_12 : decode cX12_longOf 12 = .ok (.iaload, 1) := by decide +kernel
theorem dX12_longOf_13 : decode cX12_longOf 13 = .ok (.ireturn, 1) := by decide +kernel
theorem dX12_tokenAt_0 : decode cX12_tokenAt 0 = .ok (.aload_n 0, 1) := by decide +kernel
theorem dX12_tokenAt_1 : decode cX12_tokenAt 1 = .ok (.getfield 35, 3) := by decide +kernel
theorem dX12_tokenAt_4 : decode cX12_tokenAt 4 = .ok (.bipush 86, 2) := by decide +kernel
theorem dX12_tokenAt_6 : decode cX12_tokenAt 6 = .ok (.bipush 20, 2) := by decide +kernel
theorem dX12_tokenAt_8 : decode cX12_tokenAt 8 = .ok (.iload_n 1, 1) := by decide +kernel
theorem dX12_tokenAt_9 : decode cX12_tokenAt 9 = .ok (.iload_n 2, 1) := by decide +kernel
theorem dX12_tokenAt_10 : decode cX12_tokenAt 10 = .ok (.invokestatic 146, 3) := by decide +kernel
theorem dX12_tokenAt_13 : decode cX12_tokenAt 13 = .ok (.imul, 1) := by decide +kernel
theorem dX12_tokenAt_14 : decode cX12_tokenAt 14 = .ok (.iadd, 1) := by decide +kernel
theorem dX12_tokenAt_15 : decode cX12_tokenAt 15 = .ok (.iload_n 3, 1) := by decide +kernel
theorem dX12_tokenAt_16 : decode cX12_tokenAt 16 = .ok (.iadd, 1) := by decide +kernel
theorem dX12_tokenAt_17 : decode cX12_tokenAt 17 = .ok (.iaload, 1) := by decide +kernel
theorem dX12_tokenAt_18 : decode cX12_tokenAt 18 = .ok (.ireturn, 1) := by decide +kernel
theorem dX12_wordOf_0 : decode cX12_wordOf 0 = .ok (.aload_n 0, 1) := by decide +kernel
theorem dX12_wordOf_1 : decode cX12_wordOf 1 = .ok (.getfield 35, 3) := by decide +kernel
theorem dX12_wordOf_4 : decode cX12_wordOf 4 = .ok (.sipush 886, 3) := by decide +kernel
theorem dX12_wordOf_7 : decode cX12_wordOf 7 = .ok (.iload_n 1, 1) := by decide +kernel
theorem dX12_wordOf_8 : decode cX12_wordOf 8 = .ok (.iadd, 1) := by decide +kernel
theorem dX12_wordOf_9 : decode cX12_wordOf 9 = .ok (.iaload, 1) := by decide +kernel
theorem dX12_wordOf_10 : decode cX12_wordOf 10 = .ok (.ireturn, 1) := by decide +kernel
theorem dX12_wordAt_0 : decode cX12_wordAt 0 = .ok (.aload_n 0, 1) := by decide +kernel
theorem dX12_wordAt_1 : decode cX12_wordAt 1 = .ok (.aload_n 0, 1) := by decide +kernel
theorem dX12_wordAt_2 : decode cX12_wordAt 2 = .ok (.iload_n 1, 1) := by decide +kernel
theorem dX12_wordAt_3 : decode cX12_wordAt 3 = .ok (.iload_n 2, 1) := by decide +kernel
theorem dX12_wordAt_4 : decode cX12_wordAt 4 = .ok (.iload_n 3, 1) := by decide +kernel
theorem dX12_wordAt_5 : decode cX12_wordAt 5 = .ok (.invokevirtual 262, 3) := by decide +kernel
theorem dX12_wordAt_8 : decode cX12_wordAt 8 = .ok (.invokevirtual 266, 3) := by decide +kernel
theorem dX12_wordAt_11 : decode cX12_wordAt 11 = .ok (.ireturn, 1) := by decide +kernel
theorem dX12_placeOf_0 : decode cX12_placeOf 0 = .ok (.iconst (-1), 1) := by decide +kernel
theorem dX12_placeOf_1 : decode cX12_placeOf 1 = .ok (.istore 4, 2) := by decide +kernel
theorem dX12_placeOf_3 : decode cX12_placeOf 3 = .ok (.iconst 0, 1) := by decide +kernel
theorem dX12_placeOf_4 : decode cX12_placeOf 4 = .ok (.istore 5, 2) := by decide +kernel
theorem dX12_placeOf_6 : decode cX12_placeOf 6 = .ok (.iload 5, 2) := by decide +kernel
theorem dX12_placeOf_8 : decode cX12_placeOf 8 = .ok (.aload_n 0, 1) := by decide +kernel
theorem dX12_placeOf_9 : decode cX12_placeOf 9 = .ok (.iload_n 1, 1) := by decide +kernel
theorem dX12_placeOf_10 : decode cX12_placeOf 10 = .ok (.iload_n 2, 1) := by decide +kernel
theorem dX12_placeOf_11 : decode cX12_placeOf 11 = .ok (.invokevirtual 269, 3) := by decide +kernel
theorem dX12_placeOf_14 : decode cX12_placeOf 14 = .ok (.if_icmp .ge 30, 3) := by decide +kernel
theorem dX12_placeOf_17 : decode cX12_placeOf 17 = .ok (.aload_n 0, 1) := by decide +kernel
theorem dX12_placeOf_18 : decode cX12_placeOf 18 = .ok (.iload_n 1, 1) := by decide +kernel
theorem dX12_placeOf_19 : decode cX12_placeOf 19 = .ok (.iload_n 2, 1) := by decide +kernel
theorem dX12_placeOf_20 : decode cX12_placeOf 20 = .ok (.iload 5, 2) := by decide +kernel
theorem dX12_placeOf_22 : decode cX12_placeOf 22 = .ok (.invokevirtual 262, 3) := by decide +kernel
theorem dX12_placeOf_25 : decode cX12_placeOf 25 = .ok (.iload_n 3, 1) := by decide +kernel
theorem dX12_placeOf_26 : decode cX12_placeOf 26 = .ok (.if_icmp .ne 8, 3) := by decide +kernel
theorem dX12_placeOf_29 : decode cX12_placeOf 29 = .ok (.iload 5, 2) := by decide +kernel
theorem dX12_placeOf_31 : decode cX12_placeOf 31 = .ok (.goto 5, 3) := by decide +kernel
theorem dX12_placeOf_34 : decode cX12_placeOf 34 = .ok (.iload 4, 2) := by decide +kernel
theorem dX12_placeOf_36 : decode cX12_placeOf 36 = .ok (.istore 4, 2) := by decide +kernel
theorem dX12_placeOf_38 : decode cX12_placeOf 38 = .ok (.iinc 5 1, 3) := by decide +kernel
theorem dX12_placeOf_41 : decode cX12_placeOf 41 = .ok (.goto (-35), 3) := by decide +kernel
theorem dX12_placeOf_44 : decode cX12_placeOf 44 = .ok (.iload 4, 2) := by decide +kernel
theorem dX12_placeOf_46 : decode cX12_placeOf 46 = .ok (.ireturn, 1) := by decide +kernel
theorem dX12_whereIs_0 : decode cX12_whereIs 0 = .ok (.aload_n 0, 1) := by decide +kernel
theorem dX12_whereIs_1 : decode cX12_whereIs 1 = .ok (.getfield 35, 3) := by decide +kernel
theorem dX12_whereIs_4 : decode cX12_whereIs 4 = .ok (.sipush 1206, 3) := by decide +kernel
theorem dX12_whereIs_7 : decode cX12_whereIs 7 = .ok (.iload_n 1, 1) := by decide +kernel
theorem dX12_whereIs_8 : decode cX12_whereIs 8 = .ok (.iadd, 1) := by decide +kernel
theorem dX12_whereIs_9 : decode cX12_whereIs 9 = .ok (.iaload, 1) := by decide +kernel
theorem dX12_whereIs_10 : decode cX12_whereIs 10 = .ok (.istore_n 2, 1) := by decide +kernel
theorem dX12_whereIs_11 : decode cX12_whereIs 11 = .ok (.iconst 0, 1) := by decide +kernel
theorem dX12_whereIs_12 : decode cX12_whereIs 12 = .ok (.istore_n 3, 1) := by decide +kernel
theorem dX12_whereIs_13 : decode cX12_whereIs 13 = .ok (.iconst 0, 1) := by decide +kernel
theorem dX12_whereIs_14 : decode cX12_whereIs 14 = .ok (.istore 4, 2) := by decide +kernel
theorem dX12_whereIs_16 : decode cX12_whereIs 16 = .ok (.iload 4, 2) := by decide +kernel
theorem dX12_whereIs_18 : decode cX12_whereIs 18 = .ok (.aload_n 0, 1) := by decide +kernel
theorem dX12_whereIs_19 : decode cX12_whereIs 19 = .ok (.iload_n 2, 1) := by decide +kernel
theorem dX12_whereIs_20 : decode cX12_whereIs 20 = .ok (.invokevirtual 259, 3) := by decide +kernel
theorem dX12_whereIs_23 : decode cX12_whereIs 23 = .ok (.if_icmp .ge 32, 3) := by decide +kernel
theorem dX12_whereIs_26 : decode cX12_whereIs 26 = .ok (.iload_n 3, 1) := by decide +kernel
theorem dX12_whereIs_27 : decode cX12_whereIs 27 = .ok (.aload_n 0, 1) := by decide +kernel
theorem dX12_whereIs_28 : decode cX12_whereIs 28 = .ok (.iload_n 2, 1) := by decide +kernel
theorem dX12_whereIs_29 : decode cX12_whereIs 29 = .ok (.iload 4, 2) := by decide +kernel
theorem dX12_whereIs_31 : decode cX12_whereIs 31 = .ok (.iload_n 1, 1) := by decide +kernel
theorem dX12_whereIs_32 : decode cX12_whereIs 32 = .ok (.invokevirtual 272, 3) := by decide +kernel
theorem dX12_whereIs_35 : decode cX12_whereIs 35 = .ok (.iconst (-1), 1) := by decide +kernel
theorem dX12_whereIs_36 : decode cX12_whereIs 36 = .ok (.if_icmp .ne 7, 3) := by decide +kernel
theorem dX12_whereIs_39 : decode cX12_whereIs 39 = .ok (.iconst 0, 1) := by decide +kernel
theorem dX12_whereIs_40 : decode cX12_whereIs 40 = .ok (.goto 7, 3) := by decide +kernel
theorem dX12_whereIs_43 : decode cX12_whereIs 43 = .ok (.iconst 1, 1) := by decide +kernel
theorem dX12_whereIs_44 : decode cX12_whereIs 44 = .ok (.iload 4, 2) := by decide +kernel
theorem dX12_whereIs_46 : decode cX12_whereIs 46 = .ok (.ishl, 1) := by decide +kernel
theorem dX12_whereIs_47 : decode cX12_whereIs 47 = .ok (.ior, 1) := by decide +kernel
theorem dX12_whereIs_48 : decode cX12_whereIs 48 = .ok (.istore_n 3, 1) := by decide +kernel
theorem dX12_whereIs_49 : decode cX12_whereIs 49 = .ok (.iinc 4 1, 3) := by decide +kernel
theorem dX12_whereIs_52 : decode cX12_whereIs 52 = .ok (.goto (-36), 3) := by decide +kernel
theorem dX12_whereIs_55 : decode cX12_whereIs 55 = .ok (.iload_n 3, 1) := by decide +kernel
theorem dX12_whereIs_56 : decode cX12_whereIs 56 = .ok (.ireturn, 1) := by decide +kernel
theorem dX12_rowsIn_0 : decode cX12_rowsIn 0 = .ok (.iconst 0, 1) := by decide +kernel
theorem dX12_rowsIn_1 : decode cX12_rowsIn 1 = .ok (.istore_n 1, 1) := by decide +kernel
theorem dX12_rowsIn_2 : decode cX12_rowsIn 2 = .ok (.iconst 0, 1) := by decide +kernel
theorem dX12_rowsIn_3 : decode cX12_rowsIn 3 = .ok (.istore_n 2, 1) := by decide +kernel
theorem dX12_rowsIn_4 : decode cX12_rowsIn 4 = .ok (.iload_n 2, 1) := by decide +kernel
theorem dX12_rowsIn_5 : decode cX12_rowsIn 5 = .ok (.bipush 10, 2) := by decide +kernel
theorem dX12_rowsIn_7 : decode cX12_rowsIn 7 = .ok (.if_icmp .ge 39, 3) := by decide +kernel
theorem dX12_rowsIn_10 : decode cX12_rowsIn 10 = .ok (.iload_n 1, 1) := by decide +kernel
theorem dX12_rowsIn_11 : decode cX12_rowsIn 11 = .ok (.iload_n 0, 1) := by decide +kernel
theorem dX12_rowsIn_12 : decode cX12_rowsIn 12 = .ok (.iload_n 2, 1) := by decide +kernel
theorem dX12_rowsIn_13 : decode cX12_rowsIn 13 = .ok (.invokestatic 64, 3) := by decide +kernel
theorem dX12_rowsIn_16 : decode cX12_rowsIn 16 = .ok (.ifCond .eq 21, 3) := by decide +kernel
theorem dX12_rowsIn_19 : decode cX12_rowsIn 19 = .ok (.iload_n 2, 1) := by decide +kernel
theorem dX12_rowsIn_20 : decode cX12_rowsIn 20 = .ok (.ifCond .eq 13, 3) := by decide +kernel
theorem dX12_rowsIn_23 : decode cX12_rowsIn 23 = .ok (.iload_n 0, 1) := by decide +kernel
theorem dX12_rowsIn_24 : decode cX12_rowsIn 24 = .ok (.iload_n 2, 1) := by decide +kernel
theorem dX12_rowsIn_25 : decode cX12_rowsIn 25 = .ok (.iconst 1, 1) := by decide +kernel
theorem dX12_rowsIn_26 : decode cX12_rowsIn 26 = .ok (.isub, 1) := by decide +kernel
theorem dX12_rowsIn_27 : decode cX12_rowsIn 27 = .ok (.invokestatic 64, 3) := by decide +kernel
theorem dX12_rowsIn_30 : decode cX12_rowsIn 30 = .ok (.ifCond .ne 7, 3) := by decide +kernel
theorem dX12_rowsIn_33 : decode cX12_rowsIn 33 = .ok (.iconst 1, 1) := by decide +kernel
theorem dX12_rowsIn_34 : decode cX12_rowsIn 34 = .ok (.goto 4, 3) := by decide +kernel
theorem dX12_rowsIn_37 : decode cX12_rowsIn 37 = .ok (.iconst 0, 1) := by decide +kernel
theorem dX12_rowsIn_38 : decode cX12_rowsIn 38 = .ok (.iadd, 1) := by decide +kernel
theorem dX12_rowsIn_39 : decode cX12_rowsIn 39 = .ok (.istore_n 1, 1) := by decide +kernel
theorem dX12_rowsIn_40 : decode cX12_rowsIn 40 = .ok (.iinc 2 1, 3) := by decide +kernel
theorem dX12_rowsIn_43 : decode cX12_rowsIn 43 = .ok (.goto (-39), 3) := by decide +kernel
theorem dX12_rowsIn_46 : decode cX12_rowsIn 46 = .ok (.iload_n 1, 1) := by decide +kernel
theorem dX12_rowsIn_47 : decode cX12_rowsIn 47 = .ok (.ireturn, 1) := by decide +kernel
theorem dX12_firstIn_0 : decode cX12_firstIn 0 = .ok (.iconst 0, 1) := by decide +kernel
theorem dX12_firstIn_1 : decode cX12_firstIn 1 = .ok (.istore_n 1, 1) := by decide +kernel
theorem dX12_firstIn_2 : decode cX12_firstIn 2 = .ok (.iload_n 0, 1) := by decide +kernel
theorem dX12_firstIn_3 : decode cX12_firstIn 3 = .ok (.iload_n 1, 1) := by decide +kernel
theorem dX12_firstIn_4 : decode cX12_firstIn 4 = .ok (.invokestatic 64, 3) := by decide +kernel
theorem dX12_firstIn_7 : decode cX12_firstIn 7 = .ok (.ifCond .ne 9, 3) := by decide +kernel
theorem dX12_firstIn_10 : decode cX12_firstIn 10 = .ok (.iinc 1 1, 3) := by decide +kernel
theorem dX12_firstIn_13 : decode cX12_firstIn 13 = .ok (.goto (-11), 3) := by decide +kernel
theorem dX12_firstIn_16 : decode cX12_firstIn 16 = .ok (.iload_n 1, 1) := by decide +kernel
theorem dX12_firstIn_17 : decode cX12_firstIn 17 = .ok (.ireturn, 1) := by decide +kernel
theorem dX12_lastIn_0 : decode cX12_lastIn 0 = .ok (.iconst (-1), 1) := by decide +kernel
theorem dX12_lastIn_1 : decode cX12_lastIn 1 = .ok (.istore_n 1, 1) := by decide +kernel
theorem dX12_lastIn_2 : decode cX12_lastIn 2 = .ok (.iconst 0, 1) := by decide +kernel
theorem dX12_lastIn_3 : decode cX12_lastIn 3 = .ok (.istore_n 2, 1) := by decide +kernel
theorem dX12_lastIn_4 : decode cX12_lastIn 4 = .ok (.iload_n 2, 1) := by decide +kernel
theorem dX12_lastIn_5 : decode cX12_lastIn 5 = .ok (.bipush 10, 2) := by decide +kernel
theorem dX12_lastIn_7 : decode cX12_lastIn 7 = .ok (.if_icmp .ge 23, 3) := by decide +kernel
theorem dX12_lastIn_10 : decode cX12_lastIn 10 = .ok (.iload_n 0, 1) := by decide +kernel
theorem dX12_lastIn_11 : decode cX12_lastIn 11 = .ok (.iload_n 2, 1) := by decide +kernel
theorem dX12_lastIn_12 : decode cX12_lastIn 12 = .ok (.invokestatic 64, 3) := by decide +kernel
theorem dX12_lastIn_15 : decode cX12_lastIn 15 = .ok (.ifCond .eq 7, 3) := by decide +kernel
theorem dX12_lastIn_18 : decode cX12_lastIn 18 = .ok (.iload_n 2, 1) := by decide +kernel
theorem dX12_lastIn_19 : decode cX12_lastIn 19 = .ok (.goto 4, 3) := by decide +kernel
theorem dX12_lastIn_22 : decode cX12_lastIn 22 = .ok (.iload_n 1, 1) := by decide +kernel
theorem dX12_lastIn_23 : decode cX12_lastIn 23 = .ok (.istore_n 1, 1) := by decide +kernel
theorem dX12_lastIn_24 : decode cX12_lastIn 24 = .ok (.iinc 2 1, 3) := by decide +kernel
theorem dX12_lastIn_27 : decode cX12_lastIn 27 = .ok (.goto (-23), 3) := by decide +kernel
theorem dX12_lastIn_30 : decode cX12_lastIn 30 = .ok (.iload_n 1, 1) := by decide +kernel
theorem dX12_lastIn_31 : decode cX12_lastIn 31 = .ok (.ireturn, 1) := by decide +kernel
theorem dX12_areAlike_0 : decode cX12_areAlike 0 = .ok (.aload_n 0, 1) := by decide +kernel
theorem dX12_areAlike_1 : decode cX12_areAlike 1 = .ok (.iload_n 1, 1) := by decide +kernel
theorem dX12_areAlike_2 : decode cX12_areAlike 2 = .ok (.iload_n 2, 1) := by decide +kernel
theorem dX12_areAlike_3 : decode cX12_areAlike 3 = .ok (.invokevirtual 269, 3) := by decide +kernel
theorem dX12_areAlike_6 : decode cX12_areAlike 6 = .ok (.aload_n 0, 1) := by decide +kernel
theorem dX12_areAlike_7 : decode cX12_areAlike 7 = .ok (.iload_n 3, 1) := by decide +kernel
theorem dX12_areAlike_8 : decode cX12_areAlike 8 = .ok (.iload 4, 2) := by decide +kernel
theorem dX12_areAlike_10 : decode cX12_areAlike 10 = .ok (.invokevirtual 269, 3) := by decide +kernel
theorem dX12_areAlike_13 : decode cX12_areAlike 13 = .ok (.if_icmp .ne 7, 3) := by decide +kernel
theorem dX12_areAlike_16 : decode cX12_areAlike 16 = .ok (.iconst 1, 1) := by decide +kernel
theorem dX12_areAlike_17 : decode cX12_areAlike 17 = .ok (.goto 4, 3) := by decide +kernel
theorem dX12_areAlike_20 : decode cX12_areAlike 20 = .ok (.iconst 0, 1) := by decide +kernel
theorem dX12_areAlike_21 : decode cX12_areAlike 21 = .ok (.istore 5, 2) := by decide +kernel
theorem dX12_areAlike_23 : decode cX12_areAlike 23 = .ok (.iconst 0, 1) := by decide +kernel
theorem dX12_areAlike_24 : decode cX12_areAlike 24 = .ok (.istore 6, 2) := by decide +kernel
theorem dX12_areAlike_26 : decode cX12_areAlike 26 = .ok (.iload 6, 2) := by decide +kernel
theorem dX12_areAlike_28 : decode cX12_areAlike 28 = .ok (.aload_n 0, 1) := by decide +kernel
theorem dX12_areAlike_29 : decode cX12_areAlike 29 = .ok (.iload_n 1, 1) := by decide +kernel
theorem dX12_areAlike_30 : decode cX12_areAlike 30 = .ok (.iload_n 2, 1) := by decide +kernel
theorem dX12_areAlike_31 : decode cX12_areAlike 31 = .ok (.invokevirtual 269, 3) := by decide +kernel
theorem dX12_areAlike_34 : decode cX12_areAlike 34 = .ok (.if_icmp .ge 41, 3) := by decide +kernel
theorem dX12_areAlike_37 : decode cX12_areAlike 37 = .ok (.iload 5, 2) := by decide +kernel
theorem dX12_areAlike_39 : decode cX12_areAlike 39 = .ok (.ifCond .eq 36, 3) := by decide +kernel
theorem dX12_areAlike_42 : decode cX12_areAlike 42 = .ok (.aload_n 0, 1) := by decide +kernel
theorem dX12_areAlike_43 : decode cX12_areAlike 43 = .ok (.iload_n 1, 1) := by decide +kernel
theorem dX12_areAlike_44 : decode cX12_areAlike 44 = .ok (.iload_n 2, 1) := by decide +kernel
theorem dX12_areAlike_45 : decode cX12_areAlike 45 = .ok (.iload 6, 2) := by decide +kernel
theorem dX12_areAlike_47 : decode cX12_areAlike 47 = .ok (.invokevirtual 275, 3) := by decide +kernel
theorem dX12_areAlike_50 : decode cX12_areAlike 50 = .ok (.aload_n 0, 1) := by decide +kernel
theorem dX12_areAlike_51 : decode cX12_areAlike 51 = .ok (.iload_n 3, 1) := by decide +kernel
theorem dX12_areAlike_52 : decode cX12_areAlike 52 = .ok (.iload 4, 2) := by decide +kernel
theorem dX12_areAlike_54 : decode cX12_areAlike 54 = .ok (.iload 6, 2) := by decide +kernel
theorem dX12_areAlike_56 : decode cX12_areAlike 56 = .ok (.invokevirtual 275, 3) := by decide +kernel
theorem dX12_areAlike_59 : decode cX12_areAlike 59 = .ok (.if_icmp .ne 7, 3) := by decide +kernel
theorem dX12_areAlike_62 : decode cX12_areAlike 62 = .ok (.iconst 1, 1) := by decide +kernel
theorem dX12_areAlike_63 : decode cX12_areAlike 63 = .ok (.goto 4, 3) := by decide +kernel
theorem dX12_areAlike_66 : decode cX12_areAlike 66 = .ok (.iconst 0, 1) := by decide +kernel
theorem dX12_areAlike_67 : decode cX12_areAlike 67 = .ok (.istore 5, 2) := by decide +kernel
theorem dX12_areAlike_69 : decode cX12_areAlike 69 = .ok (.iinc 6 1, 3) := by decide +kernel
theorem dX12_areAlike_72 : decode cX12_areAlike 72 = .ok (.goto (-46), 3) := by decide +kernel
theorem dX12_areAlike_75 : decode cX12_areAlike 75 = .ok (.iload 5, 2) := by decide +kernel
theorem dX12_areAlike_77 : decode cX12_areAlike 77 = .ok (.ireturn, 1) := by decide +kernel
theorem dX12_versionsAll_0 : decode cX12_versionsAll 0 = .ok (.iconst 0, 1) := by decide +kernel
theorem dX12_versionsAll_1 : decode cX12_versionsAll 1 = .ok (.istore_n 1, 1) := by decide +kernel
theorem dX12_versionsAll_2 : decode cX12_versionsAll 2 = .ok (.iconst 0, 1) := by decide +kernel
theorem dX12_versionsAll_3 : decode cX12_versionsAll 3 = .ok (.istore_n 2, 1) := by decide +kernel
theorem dX12_versionsAll_4 : decode cX12_versionsAll 4 = .ok (.iload_n 2, 1) := by decide +kernel
theorem dX12_versionsAll_5 : decode cX12_versionsAll 5 = .ok (.aload_n 0, 1) := by decide +kernel
theorem dX12_versionsAll_6 : decode cX12_versionsAll 6 = .ok (.getfield 35, 3) := by decide +kernel
theorem dX12_versionsAll_9 : decode cX12_versionsAll 9 = .ok (.iconst 0, 1) := by decide +kernel
theorem dX12_versionsAll_10 : decode cX12_versionsAll 10 = .ok (.iaload, 1) := by decide +kernel
theorem dX12_versionsAll_11 : decode cX12_versionsAll 11 = .ok (.if_icmp .ge 17, 3) := by decide +kernel
theorem dX12_versionsAll_14 : decode cX12_versionsAll 14 = .ok (.iload_n 1, 1) := by decide +kernel
theorem dX12_versionsAll_15 : decode cX12_versionsAll 15 = .ok (.aload_n 0, 1) := by decide +kernel
theorem dX12_versionsAll_16 : decode cX12_versionsAll 16 = .ok (.iload_n 2, 1) := by decide +kernel
theorem dX12_versionsAll_17 : decode cX12_versionsAll 17 = .ok (.invokevirtual 259, 3) := by decide +kernel
theorem dX12_versionsAll_20 : decode cX12_versionsAll 20 = .ok (.iadd, 1) := by decide +kernel
theorem dX12_versionsAll_21 : decode cX12_versionsAll 21 = .ok (.istore_n 1, 1) := by decide +kernel
theorem dX12_versionsAll_22 : decode cX12_versionsAll 22 = .ok (.iinc 2 1, 3) := by decide +kernel
theorem dX12_versionsAll_25 : decode cX12_versionsAll 25 = .ok (.goto (-21), 3) := by decide +kernel
theorem dX12_versionsAll_28 : decode cX12_versionsAll 28 = .ok (.iload_n 1, 1) := by decide +kernel
theorem dX12_versionsAll_29 : decode cX12_versionsAll 29 = .ok (.ireturn, 1) := by decide +kernel
theorem dX12_sizeAll_0 : decode cX12_sizeAll 0 = .ok (.iconst 0, 1) := by decide +kernel
theorem dX12_sizeAll_1 : decode cX12_sizeAll 1 = .ok (.istore_n 1, 1) := by decide +kernel
theorem dX12_sizeAll_2 : decode cX12_sizeAll 2 = .ok (.iconst 0, 1) := by decide +kernel
theorem dX12_sizeAll_3 : decode cX12_sizeAll 3 = .ok (.istore_n 2, 1) := by decide +kernel
theorem dX12_sizeAll_4 : decode cX12_sizeAll 4 = .ok (.iload_n 2, 1) := by decide +kernel
theorem dX12_sizeAll_5 : decode cX12_sizeAll 5 = .ok (.aload_n 0, 1) := by decide +kernel
theorem dX12_sizeAll_6 : decode cX12_sizeAll 6 = .ok (.getfield 35, 3) := by decide +kernel
theorem dX12_sizeAll_9 : decode cX12_sizeAll 9 = .ok (.iconst 0, 1) := by decide +kernel
theorem dX12_sizeAll_10 : decode cX12_sizeAll 10 = .ok (.iaload, 1) := by decide +kernel
theorem dX12_sizeAll_11 : decode cX12_sizeAll 11 = .ok (.if_icmp .ge 35, 3) := by decide +kernel
theorem dX12_sizeAll_14 : decode cX12_sizeAll 14 = .ok (.iconst 0, 1) := by decide +kernel
theorem dX12_sizeAll_15 : decode cX12_sizeAll 15 = .ok (.istore_n 3, 1) := by decide +kernel
theorem dX12_sizeAll_16 : decode cX12_sizeAll 16 = .ok (.iload_n 3, 1) := by decide +kernel
theorem dX12_sizeAll_17 : decode cX12_sizeAll 17 = .ok (.aload_n 0, 1) := by decide +kernel
theorem dX12_sizeAll_18 : decode cX12_sizeAll 18 = .ok (.iload_n 2, 1) := by decide +kernel
theorem dX12_sizeAll_19 : decode cX12_sizeAll 19 = .ok (.invokevirtual 259, 3) := by decide +kernel
theorem dX12_sizeAll_22 : decode cX12_sizeAll 22 = .ok (.if_icmp .ge 18, 3) := by decide +kernel
theorem dX12_sizeAll_25 : decode cX12_sizeAll 25 = .ok (.iload_n 1, 1) := by decide +kernel
theorem dX12_sizeAll_26 : decode cX12_sizeAll 26 = .ok (.aload_n 0, 1) := by decide +kernel
theorem dX12_sizeAll_27 : decode cX12_sizeAll 27 = .ok (.iload_n 2, 1) := by decide +kernel
theorem dX12_sizeAll_28 : decode cX12_sizeAll 28 = .ok (.iload_n 3, 1) := by decide +kernel
theorem dX12_sizeAll_29 : decode cX12_sizeAll 29 = .ok (.invokevirtual 269, 3) := by decide +kernel
theorem dX12_sizeAll_32 : decode cX12_sizeAll 32 = .ok (.iadd, 1) := by decide +kernel
theorem dX12_sizeAll_33 : decode cX12_sizeAll 33 = .ok (.istore_n 1, 1) := by decide +kernel
theorem dX12_sizeAll_34 : decode cX12_sizeAll 34 = .ok (.iinc 3 1, 3) := by decide +kernel
theorem dX12_sizeAll_37 : decode cX12_sizeAll 37 = .ok (.goto (-21), 3) := by decide +kernel
theorem dX12_sizeAll_40 : decode cX12_sizeAll 40 = .ok (.iinc 2 1, 3) := by decide +kernel
theorem dX12_sizeAll_43 : decode cX12_sizeAll 43 = .ok (.goto (-39), 3) := by decide +kernel
theorem dX12_sizeAll_46 : decode cX12_sizeAll 46 = .ok (.iload_n 1, 1) := by decide +kernel
theorem dX12_sizeAll_47 : decode cX12_sizeAll 47 = .ok (.ireturn, 1) := by decide +kernel
theorem dX12_postings_0 : decode cX12_postings 0 = .ok (.iconst 0, 1) := by decide +kernel
theorem dX12_postings_1 : decode cX12_postings 1 = .ok (.istore_n 1, 1) := by decide +kernel
theorem dX12_postings_2 : decode cX12_postings 2 = .ok (.iconst 0, 1) := by decide +kernel
theorem dX12_postings_3 : decode cX12_postings 3 = .ok (.istore_n 2, 1) := by decide +kernel
theorem dX12_postings_4 : decode cX12_postings 4 = .ok (.iload_n 2, 1) := by decide +kernel
theorem dX12_postings_5 : decode cX12_postings 5 = .ok (.aload_n 0, 1) := by decide +kernel
theorem dX12_postings_6 : decode cX12_postings 6 = .ok (.getfield 253, 3) := by decide +kernel
theorem dX12_postings_9 : decode cX12_postings 9 = .ok (.if_icmp .ge 20, 3) := by decide +kernel
theorem dX12_postings_12 : decode cX12_postings 12 = .ok (.iload_n 1, 1) := by decide +kernel
theorem dX12_postings_13 : decode cX12_postings 13 = .ok (.aload_n 0, 1) := by decide +kernel
theorem dX12_postings_14 : decode cX12_postings 14 = .ok (.iload_n 2, 1) := by decide +kernel
theorem dX12_postings_15 : decode cX12_postings 15 = .ok (.invokevirtual 278, 3) := by decide +kernel
theorem dX12_postings_18 : decode cX12_postings 18 = .ok (.invokestatic 281, 3) := by decide +kernel
theorem dX12_postings_21 : decode cX12_postings 21 = .ok (.iadd, 1) := by decide +kernel
theorem dX12_postings_22 : decode cX12_postings 22 = .ok (.istore_n 1, 1) := by decide +kernel
theorem dX12_postings_23 : decode cX12_postings 23 = .ok (.iinc 2 1, 3) := by decide +kernel
theorem dX12_postings_26 : decode cX12_postings 26 = .ok (.goto (-22), 3) := by decide +kernel
theorem dX12_postings_29 : decode cX12_postings 29 = .ok (.iload_n 1, 1) := by decide +kernel
theorem dX12_postings_30 : decode cX12_postings 30 = .ok (.ireturn, 1) := by decide +kernel
theorem dX12_longest_0 : decode cX12_longest 0 = .ok (.iconst (-1), 1) := by decide +kernel
theorem dX12_longest_1 : decode cX12_longest 1 = .ok (.istore_n 1, 1) := by decide +kernel
theorem dX12_longest_2 : decode cX12_longest 2 = .ok (.iconst 0, 1) := by decide +kernel
theorem dX12_longest_3 : decode cX12_longest 3 = .ok (.istore_n 2, 1) := by decide +kernel
theorem dX12_longest_4 : decode cX12_longest 4 = .ok (.iload_n 2, 1) := by decide +kernel
theorem dX12_longest_5 : decode cX12_longest 5 = .ok (.aload_n 0, 1) := by decide +kernel
theorem dX12_longest_6 : decode cX12_longest 6 = .ok (.getfield 35, 3) := by decide +kernel
theorem dX12_longest_9 : decode cX12_longest 9 = .ok (.iconst 0, 1) := by decide +kernel
theorem dX12_longest_10 : decode cX12_longest 10 = .ok (.iaload, 1) := by decide +kernel
theorem dX12_longest_11 : decode cX12_longest 11 = .ok (.if_icmp .ge 47, 3) := by decide +kernel
theorem dX12_longest_14 : decode cX12_longest 14 = .ok (.iload_n 1, 1) := by decide +kernel
theorem dX12_longest_15 : decode cX12_longest 15 = .ok (.iconst (-1), 1) := by decide +kernel
theorem dX12_longest_16 : decode cX12_longest 16 = .ok (.if_icmp .eq 30, 3) := by decide +kernel
theorem dX12_longest_19 : decode cX12_longest 19 = .ok (.aload_n 0, 1) := by decide +kernel
theorem dX12_longest_20 : decode cX12_longest 20 = .ok (.iload_n 2, 1) := by decide +kernel
theorem dX12_longest_21 : decode cX12_longest 21 = .ok (.aload_n 0, 1) := by decide +kernel
theorem dX12_longest_22 : decode cX12_longest 22 = .ok (.iload_n 2, 1) := by decide +kernel
theorem dX12_longest_23 : decode cX12_longest 23 = .ok (.invokevirtual 259, 3) := by decide +kernel
theorem dX12_longest_26 : decode cX12_longest 26 = .ok (.iconst 1, 1) := by decide +kernel
theorem dX12_longest_27 : decode cX12_longest 27 = .ok (.isub, 1) := by decide +kernel
theorem dX12_longest_28 : decode cX12_longest 28 = .ok (.invokevirtual 269, 3) := by decide +kernel
theorem dX12_longest_31 : decode cX12_longest 31 = .ok (.aload_n 0, 1) := by decide +kernel
theorem dX12_longest_32 : decode cX12_longest 32 = .ok (.iload_n 1, 1) := by decide +kernel
theorem dX12_longest_33 : decode cX12_longest 33 = .ok (.aload_n 0, 1) := by decide +kernel
theorem dX12_longest_34 : decode cX12_longest 34 = .ok (.iload_n 1, 1) := by decide +kernel
theorem dX12_longest_35 : decode cX12_longest 35 = .ok (.invokevirtual 259, 3) := by decide +kernel
theorem dX12_longest_38 : decode cX12_longest 38 = .ok (.iconst 1, 1) := by decide +kernel
theorem dX12_longest_39 : decode cX12_longest 39 = .ok (.isub, 1) := by decide +kernel
theorem dX12_longest_40 : decode cX12_longest 40 = .ok (.invokevirtual 269, 3) := by decide +kernel
theorem dX12_longest_43 : decode cX12_longest 43 = .ok (.if_icmp .le 7, 3) := by decide +kernel
theorem dX12_longest_46 : decode cX12_longest 46 = .ok (.iload_n 2, 1) := by decide +kernel
theorem dX12_longest_47 : decode cX12_longest 47 = .ok (.goto 4, 3) := by decide +kernel
theorem dX12_longest_50 : decode cX12_longest 50 = .ok (.iload_n 1, 1) := by decide +kernel
theorem dX12_longest_51 : decode cX12_longest 51 = .ok (.istore_n 1, 1) := by decide +kernel
theorem dX12_longest_52 : decode cX12_longest 52 = .ok (.iinc 2 1, 3) := by decide +kernel
theorem dX12_longest_55 : decode cX12_longest 55 = .ok (.goto (-51), 3) := by decide +kernel
theorem dX12_longest_58 : decode cX12_longest 58 = .ok (.iload_n 1, 1) := by decide +kernel
theorem dX12_longest_59 : decode cX12_longest 59 = .ok (.ireturn, 1) := by decide +kernel
theorem dX12_twins_0 : decode cX12_twins 0 = .ok (.iconst 0, 1) := by decide +kernel
theorem dX12_twins_1 : decode cX12_twins 1 = .ok (.istore_n 1, 1) := by decide +kernel
theorem dX12_twins_2 : decode cX12_twins 2 = .ok (.iconst 0, 1) := by decide +kernel
theorem dX12_twins_3 : decode cX12_twins 3 = .ok (.istore_n 2, 1) := by decide +kernel
theorem dX12_twins_4 : decode cX12_twins 4 = .ok (.iload_n 2, 1) := by decide +kernel
theorem dX12_twins_5 : decode cX12_twins 5 = .ok (.bipush 40, 2) := by decide +kernel
theorem dX12_twins_7 : decode cX12_twins 7 = .ok (.if_icmp .ge 95, 3) := by decide +kernel
theorem dX12_twins_10 : decode cX12_twins 10 = .ok (.iconst 0, 1) := by decide +kernel
theorem dX12_twins_11 : decode cX12_twins 11 = .ok (.istore_n 3, 1) := by decide +kernel
theorem dX12_twins_12 : decode cX12_twins 12 = .ok (.iload_n 3, 1) := by decide +kernel
theorem dX12_twins_13 : decode cX12_twins 13 = .ok (.iload_n 2, 1) := by decide +kernel
theorem dX12_twins_14 : decode cX12_twins 14 = .ok (.if_icmp .ge 82, 3) := by decide +kernel
theorem dX12_twins_17 : decode cX12_twins 17 = .ok (.aload_n 0, 1) := by decide +kernel
theorem dX12_twins_18 : decode cX12_twins 18 = .ok (.iload_n 2, 1) := by decide +kernel
theorem dX12_twins_19 : decode cX12_twins 19 = .ok (.bipush 10, 2) := by decide +kernel
theorem dX12_twins_21 : decode cX12_twins 21 = .ok (.idiv, 1) := by decide +kernel
theorem dX12_twins_22 : decode cX12_twins 22 = .ok (.iload_n 2, 1) := by decide +kernel
theorem dX12_twins_23 : decode cX12_twins 23 = .ok (.bipush 10, 2) := by decide +kernel
theorem dX12_twins_25 : decode cX12_twins 25 = .ok (.irem, 1) := by decide +kernel
theorem dX12_twins_26 : decode cX12_twins 26 = .ok (.invokevirtual 284, 3) := by decide +kernel
theorem dX12_twins_29 : decode cX12_twins 29 = .ok (.ifCond .eq 22, 3) := by decide +kernel
theorem dX12_twins_32 : decode cX12_twins 32 = .ok (.aload_n 0, 1) := by decide +kernel
theorem dX12_twins_33 : decode cX12_twins 33 = .ok (.iload_n 3, 1) := by decide +kernel
theorem dX12_twins_34 : decode cX12_twins 34 = .ok (.bipush 10, 2) := by decide +kernel
theorem dX12_twins_36 : decode cX12_twins 36 = .ok (.idiv, 1) := by decide +kernel
theorem dX12_twins_37 : decode cX12_twins 37 = .ok (.iload_n 3, 1) := by decide +kernel
theorem dX12_twins_38 : decode cX12_twins 38 = .ok (.bipush 10, 2) := by decide +kernel
theorem dX12_twins_40 : decode cX12_twins 40 = .ok (.irem, 1) := by decide +kernel
theorem dX12_twins_41 : decode cX12_twins 41 = .ok (.invokevirtual 284, 3) := by decide +kernel
theorem dX12_twins_44 : decode cX12_twins 44 = .ok (.ifCond .eq 7, 3) := by decide +kernel
theorem dX12_twins_47 : decode cX12_twins 47 = .ok (.iconst 1, 1) := by decide +kernel
theorem dX12_twins_48 : decode cX12_twins 48 = .ok (.goto 4, 3) := by decide +kernel
theorem dX12_twins_51 : decode cX12_twins 51 = .ok (.iconst 0, 1) := by decide +kernel
theorem dX12_twins_52 : decode cX12_twins 52 = .ok (.istore 4, 2) := by decide +kernel
theorem dX12_twins_54 : decode cX12_twins 54 = .ok (.iload_n 1, 1) := by decide +kernel
theorem dX12_twins_55 : decode cX12_twins 55 = .ok (.iload 4, 2) := by decide +kernel
theorem dX12_twins_57 : decode cX12_twins 57 = .ok (.ifCond .eq 30, 3) := by decide +kernel
theorem dX12_twins_60 : decode cX12_twins 60 = .ok (.aload_n 0, 1) := by decide +kernel
theorem dX12_twins_61 : decode cX12_twins 61 = .ok (.iload_n 2, 1) := by decide +kernel
theorem dX12_twins_62 : decode cX12_twins 62 = .ok (.bipush 10, 2) := by decide +kernel
theorem dX12_twins_64 : decode cX12_twins 64 = .ok (.idiv, 1) := by decide +kernel
theorem dX12_twins_65 : decode cX12_twins 65 = .ok (.iload_n 2, 1) := by decide +kernel
theorem dX12_twins_66 : decode cX12_twins 66 = .ok (.bipush 10, 2) := by decide +kernel
theorem dX12_twins_68 : decode cX12_twins 68 = .ok (.irem, 1) := by decide +kernel
theorem dX12_twins_69 : decode cX12_twins 69 = .ok (.iload_n 3, 1) := by decide +kernel
theorem dX12_twins_70 : decode cX12_twins 70 = .ok (.bipush 10, 2) := by decide +kernel
theorem dX12_twins_72 : decode cX12_twins 72 = .ok (.idiv, 1) := by decide +kernel
theorem dX12_twins_73 : decode cX12_twins 73 = .ok (.iload_n 3, 1) := by decide +kernel
theorem dX12_twins_74 : decode cX12_twins 74 = .ok (.bipush 10, 2) := by decide +kernel
theorem dX12_twins_76 : decode cX12_twins 76 = .ok (.irem, 1) := by decide +kernel
theorem dX12_twins_77 : decode cX12_twins 77 = .ok (.invokevirtual 287, 3) := by decide +kernel
theorem dX12_twins_80 : decode cX12_twins 80 = .ok (.ifCond .eq 7, 3) := by decide +kernel
theorem dX12_twins_83 : decode cX12_twins 83 = .ok (.iconst 1, 1) := by decide +kernel
theorem dX12_twins_84 : decode cX12_twins 84 = .ok (.goto 4, 3) := by decide +kernel
theorem dX12_twins_87 : decode cX12_twins 87 = .ok (.iconst 0, 1) := by decide +kernel
theorem dX12_twins_88 : decode cX12_twins 88 = .ok (.iadd, 1) := by decide +kernel
theorem dX12_twins_89 : decode cX12_twins 89 = .ok (.istore_n 1, 1) := by decide +kernel
theorem dX12_twins_90 : decode cX12_twins 90 = .ok (.iinc 3 1, 3) := by decide +kernel
theorem dX12_twins_93 : decode cX12_twins 93 = .ok (.goto (-81), 3) := by decide +kernel
theorem dX12_twins_96 : decode cX12_twins 96 = .ok (.iinc 2 1, 3) := by decide +kernel
theorem dX12_twins_99 : decode cX12_twins 99 = .ok (.goto (-95), 3) := by decide +kernel
theorem dX12_twins_102 : decode cX12_twins 102 = .ok (.iload_n 1, 1) := by decide +kernel
theorem dX12_twins_103 : decode cX12_twins 103 = .ok (.ireturn, 1) := by decide +kernel
theorem dX12_behindOf_0 : decode cX12_behindOf 0 = .ok (.iconst (-1), 1) := by decide +kernel
theorem dX12_behindOf_1 : decode cX12_behindOf 1 = .ok (.istore 4, 2) := by decide +kernel
theorem dX12_behindOf_3 : decode cX12_behindOf 3 = .ok (.iconst 0, 1) := by decide +kernel
theorem dX12_behindOf_4 : decode cX12_behindOf 4 = .ok (.istore 5, 2) := by decide +kernel
theorem dX12_behindOf_6 : decode cX12_behindOf 6 = .ok (.iload 5, 2) := by decide +kernel
theorem dX12_behindOf_8 : decode cX12_behindOf 8 = .ok (.aload_n 0, 1) := by decide +kernel
theorem dX12_behindOf_9 : decode cX12_behindOf 9 = .ok (.iload_n 1, 1) := by decide +kernel
theorem dX12_behindOf_10 : decode cX12_behindOf 10 = .ok (.invokevirtual 259, 3) := by decide +kernel
theorem dX12_behindOf_13 : decode cX12_behindOf 13 = .ok (.if_icmp .ge 117, 3) := by decide +kernel
theorem dX12_behindOf_16 : decode cX12_behindOf 16 = .ok (.iload_n 3, 1) := by decide +kernel
theorem dX12_behindOf_17 : decode cX12_behindOf 17 = .ok (.iload 5, 2) := by decide +kernel
theorem dX12_behindOf_19 : decode cX12_behindOf 19 = .ok (.invokestatic 64, 3) := by decide +kernel
theorem dX12_behindOf_22 : decode cX12_behindOf 22 = .ok (.ifCond .eq 14, 3) := by decide +kernel
theorem dX12_behindOf_25 : decode cX12_behindOf 25 = .ok (.aload_n 0, 1) := by decide +kernel
theorem dX12_behindOf_26 : decode cX12_behindOf 26 = .ok (.iload_n 1, 1) := by decide +kernel
theorem dX12_behindOf_27 : decode cX12_behindOf 27 = .ok (.iload 5, 2) := by decide +kernel
theorem dX12_behindOf_29 : decode cX12_behindOf 29 = .ok (.iload_n 2, 1) := by decide +kernel
theorem dX12_behindOf_30 : decode cX12_behindOf 30 = .ok (.invokevirtual 272, 3) := by decide +kernel
theorem dX12_behindOf_33 : decode cX12_behindOf 33 = .ok (.goto 4, 3) := by decide +kernel
theorem dX12_behindOf_36 : decode cX12_behindOf 36 = .ok (.iconst (-1), 1) := by decide +kernel
theorem dX12_behindOf_37 : decode cX12_behindOf 37 = .ok (.istore 6, 2) := by decide +kernel
theorem dX12_behindOf_39 : decode cX12_behindOf 39 = .ok (.iload 6, 2) := by decide +kernel
theorem dX12_behindOf_41 : decode cX12_behindOf 41 = .ok (.iconst (-1), 1) := by decide +kernel
theorem dX12_behindOf_42 : decode cX12_behindOf 42 = .ok (.if_icmp .eq 17, 3) := by decide +kernel
theorem dX12_behindOf_45 : decode cX12_behindOf 45 = .ok (.iload 6, 2) := by decide +kernel
theorem dX12_behindOf_47 : decode cX12_behindOf 47 = .ok (.iconst 1, 1) := by decide +kernel
theorem dX12_behindOf_48 : decode cX12_behindOf 48 = .ok (.iadd, 1) := by decide +kernel
theorem dX12_behindOf_49 : decode cX12_behindOf 49 = .ok (.aload_n 0, 1) := by decide +kernel
theorem dX12_behindOf_50 : decode cX12_behindOf 50 = .ok (.iload_n 1, 1) := by decide +kernel
theorem dX12_behindOf_51 : decode cX12_behindOf 51 = .ok (.iload 5, 2) := by decide +kernel
theorem dX12_behindOf_53 : decode cX12_behindOf 53 = .ok (.invokevirtual 269, 3) := by decide +kernel
theorem dX12_behindOf_56 : decode cX12_behindOf 56 = .ok (.if_icmp .lt 7, 3) := by decide +kernel
theorem dX12_behindOf_59 : decode cX12_behindOf 59 = .ok (.iconst (-1), 1) := by decide +kernel
theorem dX12_behindOf_60 : decode cX12_behindOf 60 = .ok (.goto 14, 3) := by decide +kernel
theorem dX12_behindOf_63 : decode cX12_behindOf 63 = .ok (.aload_n 0, 1) := by decide +kernel
theorem dX12_behindOf_64 : decode cX12_behindOf 64 = .ok (.iload_n 1, 1) := by decide +kernel
theorem dX12_behindOf_65 : decode cX12_behindOf 65 = .ok (.iload 5, 2) := by decide +kernel
theorem dX12_behindOf_67 : decode cX12_behindOf 67 = .ok (.iload 6, 2) := by decide +kernel
theorem dX12_behindOf_69 : decode cX12_behindOf 69 = .ok (.iconst 1, 1) := by decide +kernel
theorem dX12_behindOf_70 : decode cX12_behindOf 70 = .ok (.iadd, 1) := by decide +kernel
theorem dX12_behindOf_71 : decode cX12_behindOf 71 = .ok (.invokevirtual 262, 3) := by decide +kernel
theorem dX12_behindOf_74 : decode cX12_behindOf 74 = .ok (.istore 7, 2) := by decide +kernel
theorem dX12_behindOf_76 : decode cX12_behindOf 76 = .ok (.iload_n 3, 1) := by decide +kernel
theorem dX12_behindOf_77 : decode cX12_behindOf 77 = .ok (.iload 5, 2) := by decide +kernel
theorem dX12_behindOf_79 : decode cX12_behindOf 79 = .ok (.invokestatic 64, 3) := by decide +kernel
theorem dX12_behindOf_82 : decode cX12_behindOf 82 = .ok (.ifCond .eq 24, 3) := by decide +kernel
theorem dX12_behindOf_85 : decode cX12_behindOf 85 = .ok (.iload 7, 2) := by decide +kernel
theorem dX12_behindOf_87 : decode cX12_behindOf 87 = .ok (.iconst (-1), 1) := by decide +kernel
theorem dX12_behindOf_88 : decode cX12_behindOf 88 = .ok (.if_icmp .eq 16, 3) := by decide +kernel
