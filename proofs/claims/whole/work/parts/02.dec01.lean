theorem dX4_sumWrongAtStart_62 : decode cX4_sumWrongAtStart 62 = .ok (.getfield 23, 3) := by decide +kernel
theorem dX4_sumWrongAtStart_65 : decode cX4_sumWrongAtStart 65 = .ok (.iload 6, 2) := by decide +kernel
theorem dX4_sumWrongAtStart_67 : decode cX4_sumWrongAtStart 67 = .ok (.iaload, 1) := by decide +kernel
theorem dX4_sumWrongAtStart_68 : decode cX4_sumWrongAtStart 68 = .ok (.i2l, 1) := by decide +kernel
theorem dX4_sumWrongAtStart_69 : decode cX4_sumWrongAtStart 69 = .ok (.lmul, 1) := by decide +kernel
theorem dX4_sumWrongAtStart_70 : decode cX4_sumWrongAtStart 70 = .ok (.ladd, 1) := by decide +kernel
theorem dX4_sumWrongAtStart_71 : decode cX4_sumWrongAtStart 71 = .ok (.lstore 4, 2) := by decide +kernel
theorem dX4_sumWrongAtStart_73 : decode cX4_sumWrongAtStart 73 = .ok (.iinc 6 1, 3) := by decide +kernel
theorem dX4_sumWrongAtStart_76 : decode cX4_sumWrongAtStart 76 = .ok (.goto (-30), 3) := by decide +kernel
theorem dX4_sumWrongAtStart_79 : decode cX4_sumWrongAtStart 79 = .ok (.lload 4, 2) := by decide +kernel
theorem dX4_sumWrongAtStart_81 : decode cX4_sumWrongAtStart 81 = .ok (.lconst 0, 1) := by decide +kernel
theorem dX4_sumWrongAtStart_82 : decode cX4_sumWrongAtStart 82 = .ok (.lcmp, 1) := by decide +kernel
theorem dX4_sumWrongAtStart_83 : decode cX4_sumWrongAtStart 83 = .ok (.ifCond .eq 5, 3) := by decide +kernel
theorem dX4_sumWrongAtStart_86 : decode cX4_sumWrongAtStart 86 = .ok (.iload_n 2, 1) := by decide +kernel
theorem dX4_sumWrongAtStart_87 : decode cX4_sumWrongAtStart 87 = .ok (.ireturn, 1) := by decide +kernel
theorem dX4_sumWrongAtStart_88 : decode cX4_sumWrongAtStart 88 = .ok (.iinc 2 1, 3) := by decide +kernel
theorem dX4_sumWrongAtStart_91 : decode cX4_sumWrongAtStart 91 = .ok (.goto (-73), 3) := by decide +kernel
theorem dX4_sumWrongAtStart_94 : decode cX4_sumWrongAtStart 94 = .ok (.iconst (-1), 1) := by decide +kernel
theorem dX4_sumWrongAtStart_95 : decode cX4_sumWrongAtStart 95 = .ok (.ireturn, 1) := by decide +kernel
theorem dX4_sumLostBy_0 : decode cX4_sumLostBy 0 = .ok (.aload_n 1, 1) := by decide +kernel
theorem dX4_sumLostBy_1 : decode cX4_sumLostBy 1 = .ok (.ifnonnull 7, 3) := by decide +kernel
theorem dX4_sumLostBy_4 : decode cX4_sumLostBy 4 = .ok (.aconst_null, 1) := by decide +kernel
theorem dX4_sumLostBy_5 : decode cX4_sumLostBy 5 = .ok (.goto 12, 3) := by decide +kernel
theorem dX4_sumLostBy_8 : decode cX4_sumLostBy 8 = .ok (.aload_n 0, 1) := by decide +kernel
theorem dX4_sumLostBy_9 : decode cX4_sumLostBy 9 = .ok (.aload_n 1, 1) := by decide +kernel
theorem dX4_sumLostBy_10 : decode cX4_sumLostBy 10 = .ok (.getfield 82, 3) := by decide +kernel
theorem dX4_sumLostBy_13 : decode cX4_sumLostBy 13 = .ok (.iconst 0, 1) := by decide +kernel
theorem dX4_sumLostBy_14 : decode cX4_sumLostBy 14 = .ok (.invokevirtual 59, 3) := by decide +kernel
theorem dX4_sumLostBy_17 : decode cX4_sumLostBy 17 = .ok (.astore_n 2, 1) := by decide +kernel
theorem dX4_sumLostBy_18 : decode cX4_sumLostBy 18 = .ok (.aload_n 1, 1) := by decide +kernel
theorem dX4_sumLostBy_19 : decode cX4_sumLostBy 19 = .ok (.ifnonnull 7, 3) := by decide +kernel
theorem dX4_sumLostBy_22 : decode cX4_sumLostBy 22 = .ok (.aconst_null, 1) := by decide +kernel
theorem dX4_sumLostBy_23 : decode cX4_sumLostBy 23 = .ok (.goto 12, 3) := by decide +kernel
theorem dX4_sumLostBy_26 : decode cX4_sumLostBy 26 = .ok (.aload_n 0, 1) := by decide +kernel
theorem dX4_sumLostBy_27 : decode cX4_sumLostBy 27 = .ok (.aload_n 1, 1) := by decide +kernel
theorem dX4_sumLostBy_28 : decode cX4_sumLostBy 28 = .ok (.getfield 85, 3) := by decide +kernel
theorem dX4_sumLostBy_31 : decode cX4_sumLostBy 31 = .ok (.iconst 0, 1) := by decide +kernel
theorem dX4_sumLostBy_32 : decode cX4_sumLostBy 32 = .ok (.invokevirtual 59, 3) := by decide +kernel
theorem dX4_sumLostBy_35 : decode cX4_sumLostBy 35 = .ok (.astore_n 3, 1) := by decide +kernel
theorem dX4_sumLostBy_36 : decode cX4_sumLostBy 36 = .ok (.aload_n 2, 1) := by decide +kernel
theorem dX4_sumLostBy_37 : decode cX4_sumLostBy 37 = .ok (.ifnull 7, 3) := by decide +kernel
theorem dX4_sumLostBy_40 : decode cX4_sumLostBy 40 = .ok (.aload_n 3, 1) := by decide +kernel
theorem dX4_sumLostBy_41 : decode cX4_sumLostBy 41 = .ok (.ifnonnull 5, 3) := by decide +kernel
theorem dX4_sumLostBy_44 : decode cX4_sumLostBy 44 = .ok (.iconst (-1), 1) := by decide +kernel
theorem dX4_sumLostBy_45 : decode cX4_sumLostBy 45 = .ok (.ireturn, 1) := by decide +kernel
theorem dX4_sumLostBy_46 : decode cX4_sumLostBy 46 = .ok (.iconst 0, 1) := by decide +kernel
theorem dX4_sumLostBy_47 : decode cX4_sumLostBy 47 = .ok (.istore 4, 2) := by decide +kernel
theorem dX4_sumLostBy_49 : decode cX4_sumLostBy 49 = .ok (.iload 4, 2) := by decide +kernel
theorem dX4_sumLostBy_51 : decode cX4_sumLostBy 51 = .ok (.aload_n 3, 1) := by decide +kernel
theorem dX4_sumLostBy_52 : decode cX4_sumLostBy 52 = .ok (.invokevirtual 63, 3) := by decide +kernel
theorem dX4_sumLostBy_55 : decode cX4_sumLostBy 55 = .ok (.if_icmp .ge 40, 3) := by decide +kernel
theorem dX4_sumLostBy_58 : decode cX4_sumLostBy 58 = .ok (.aload_n 1, 1) := by decide +kernel
theorem dX4_sumLostBy_59 : decode cX4_sumLostBy 59 = .ok (.aload_n 3, 1) := by decide +kernel
theorem dX4_sumLostBy_60 : decode cX4_sumLostBy 60 = .ok (.getfield 69, 3) := by decide +kernel
theorem dX4_sumLostBy_63 : decode cX4_sumLostBy 63 = .ok (.iload 4, 2) := by decide +kernel
theorem dX4_sumLostBy_65 : decode cX4_sumLostBy 65 = .ok (.invokevirtual 73, 3) := by decide +kernel
theorem dX4_sumLostBy_68 : decode cX4_sumLostBy 68 = .ok (.aload_n 0, 1) := by decide +kernel
theorem dX4_sumLostBy_69 : decode cX4_sumLostBy 69 = .ok (.getfield 27, 3) := by decide +kernel
theorem dX4_sumLostBy_72 : decode cX4_sumLostBy 72 = .ok (.invokevirtual 88, 3) := by decide +kernel
theorem dX4_sumLostBy_75 : decode cX4_sumLostBy 75 = .ok (.aload_n 2, 1) := by decide +kernel
theorem dX4_sumLostBy_76 : decode cX4_sumLostBy 76 = .ok (.aload_n 0, 1) := by decide +kernel
theorem dX4_sumLostBy_77 : decode cX4_sumLostBy 77 = .ok (.getfield 27, 3) := by decide +kernel
theorem dX4_sumLostBy_80 : decode cX4_sumLostBy 80 = .ok (.invokevirtual 92, 3) := by decide +kernel
theorem dX4_sumLostBy_83 : decode cX4_sumLostBy 83 = .ok (.ifCond .ne 6, 3) := by decide +kernel
theorem dX4_sumLostBy_86 : decode cX4_sumLostBy 86 = .ok (.iload 4, 2) := by decide +kernel
theorem dX4_sumLostBy_88 : decode cX4_sumLostBy 88 = .ok (.ireturn, 1) := by decide +kernel
theorem dX4_sumLostBy_89 : decode cX4_sumLostBy 89 = .ok (.iinc 4 1, 3) := by decide +kernel
theorem dX4_sumLostBy_92 : decode cX4_sumLostBy 92 = .ok (.goto (-43), 3) := by decide +kernel
theorem dX4_sumLostBy_95 : decode cX4_sumLostBy 95 = .ok (.iconst (-1), 1) := by decide +kernel
theorem dX4_sumLostBy_96 : decode cX4_sumLostBy 96 = .ok (.ireturn, 1) := by decide +kernel
theorem dX5_init_0 : decode cX5_init 0 = .ok (.aload_n 0, 1) := by decide +kernel
theorem dX5_init_1 : decode cX5_init 1 = .ok (.invokespecial 3, 3) := by decide +kernel
theorem dX5_init_4 : decode cX5_init 4 = .ok (.aload_n 0, 1) := by decide +kernel
theorem dX5_init_5 : decode cX5_init 5 = .ok (.aload_n 1, 1) := by decide +kernel
theorem dX5_init_6 : decode cX5_init 6 = .ok (.putfield 9, 3) := by decide +kernel
theorem dX5_init_9 : decode cX5_init 9 = .ok (.aload_n 0, 1) := by decide +kernel
theorem dX5_init_10 : decode cX5_init 10 = .ok (.new 15, 3) := by decide +kernel
theorem dX5_init_13 : decode cX5_init 13 = .ok (.dup, 1) := by decide +kernel
theorem dX5_init_14 : decode cX5_init 14 = .ok (.invokespecial 17, 3) := by decide +kernel
theorem dX5_init_17 : decode cX5_init 17 = .ok (.putfield 18, 3) := by decide +kernel
theorem dX5_init_20 : decode cX5_init 20 = .ok (.aload_n 0, 1) := by decide +kernel
theorem dX5_init_21 : decode cX5_init 21 = .ok (.bipush 6, 2) := by decide +kernel
theorem dX5_init_23 : decode cX5_init 23 = .ok (.bipush 60, 2) := by decide +kernel
theorem dX5_init_25 : decode cX5_init 25 = .ok (.multianewarray 22 2, 4) := by decide +kernel
theorem dX5_init_29 : decode cX5_init 29 = .ok (.putfield 24, 3) := by decide +kernel
theorem dX5_init_32 : decode cX5_init 32 = .ok (.aload_n 0, 1) := by decide +kernel
theorem dX5_init_33 : decode cX5_init 33 = .ok (.bipush 6, 2) := by decide +kernel
theorem dX5_init_35 : decode cX5_init 35 = .ok (.newarray .int, 2) := by decide +kernel
theorem dX5_init_37 : decode cX5_init 37 = .ok (.putfield 27, 3) := by decide +kernel
theorem dX5_init_40 : decode cX5_init 40 = .ok (.aload_n 0, 1) := by decide +kernel
theorem dX5_init_41 : decode cX5_init 41 = .ok (.bipush 6, 2) := by decide +kernel
theorem dX5_init_43 : decode cX5_init 43 = .ok (.iconst 4, 1) := by decide +kernel
theorem dX5_init_44 : decode cX5_init 44 = .ok (.multianewarray 22 2, 4) := by decide +kernel
theorem dX5_init_48 : decode cX5_init 48 = .ok (.putfield 31, 3) := by decide +kernel
theorem dX5_init_51 : decode cX5_init 51 = .ok (.aload_n 0, 1) := by decide +kernel
theorem dX5_init_52 : decode cX5_init 52 = .ok (.bipush 6, 2) := by decide +kernel
theorem dX5_init_54 : decode cX5_init 54 = .ok (.newarray .int, 2) := by decide +kernel
theorem dX5_init_56 : decode cX5_init 56 = .ok (.putfield 34, 3) := by decide +kernel
theorem dX5_init_59 : decode cX5_init 59 = .ok (.aload_n 0, 1) := by decide +kernel
theorem dX5_init_60 : decode cX5_init 60 = .ok (.iconst 5, 1) := by decide +kernel
theorem dX5_init_61 : decode cX5_init 61 = .ok (.newarray .int, 2) := by decide +kernel
theorem dX5_init_63 : decode cX5_init 63 = .ok (.putfield 37, 3) := by decide +kernel
theorem dX5_init_66 : decode cX5_init 66 = .ok (.aload_n 0, 1) := by decide +kernel
theorem dX5_init_67 : decode cX5_init 67 = .ok (.iconst 4, 1) := by decide +kernel
theorem dX5_init_68 : decode cX5_init 68 = .ok (.newarray .int, 2) := by decide +kernel
theorem dX5_init_70 : decode cX5_init 70 = .ok (.putfield 40, 3) := by decide +kernel
theorem dX5_init_73 : decode cX5_init 73 = .ok (.aload_n 0, 1) := by decide +kernel
theorem dX5_init_74 : decode cX5_init 74 = .ok (.iconst 5, 1) := by decide +kernel
theorem dX5_init_75 : decode cX5_init 75 = .ok (.newarray .int, 2) := by decide +kernel
theorem dX5_init_77 : decode cX5_init 77 = .ok (.putfield 43, 3) := by decide +kernel
theorem dX5_init_80 : decode cX5_init 80 = .ok (.aload_n 0, 1) := by decide +kernel
theorem dX5_init_81 : decode cX5_init 81 = .ok (.bipush (-9), 2) := by decide +kernel
theorem dX5_init_83 : decode cX5_init 83 = .ok (.putfield 46, 3) := by decide +kernel
theorem dX5_init_86 : decode cX5_init 86 = .ok (.return_, 1) := by decide +kernel
theorem dX5_find_0 : decode cX5_find 0 = .ok (.aload_n 0, 1) := by decide +kernel
theorem dX5_find_1 : decode cX5_find 1 = .ok (.getfield 18, 3) := by decide +kernel
theorem dX5_find_4 : decode cX5_find 4 = .ok (.invokevirtual 50, 3) := by decide +kernel
theorem dX5_find_7 : decode cX5_find 7 = .ok (.iconst 0, 1) := by decide +kernel
theorem dX5_find_8 : decode cX5_find 8 = .ok (.istore_n 2, 1) := by decide +kernel
theorem dX5_find_9 : decode cX5_find 9 = .ok (.iload_n 2, 1) := by decide +kernel
theorem dX5_find_10 : decode cX5_find 10 = .ok (.aload_n 0, 1) := by decide +kernel
theorem dX5_find_11 : decode cX5_find 11 = .ok (.getfield 9, 3) := by decide +kernel
theorem dX5_find_14 : decode cX5_find 14 = .ok (.getfield 53, 3) := by decide +kernel
theorem dX5_find_17 : decode cX5_find 17 = .ok (.if_icmp .ge 44, 3) := by decide +kernel
theorem dX5_find_20 : decode cX5_find 20 = .ok (.aload_n 0, 1) := by decide +kernel
theorem dX5_find_21 : decode cX5_find 21 = .ok (.getfield 9, 3) := by decide +kernel
theorem dX5_find_24 : decode cX5_find 24 = .ok (.iload_n 2, 1) := by decide +kernel
theorem dX5_find_25 : decode cX5_find 25 = .ok (.iconst 0, 1) := by decide +kernel
theorem dX5_find_26 : decode cX5_find 26 = .ok (.invokevirtual 58, 3) := by decide +kernel
theorem dX5_find_29 : decode cX5_find 29 = .ok (.astore_n 3, 1) := by decide +kernel
theorem dX5_find_30 : decode cX5_find 30 = .ok (.aload_n 0, 1) := by decide +kernel
theorem dX5_find_31 : decode cX5_find 31 = .ok (.getfield 27, 3) := by decide +kernel
theorem dX5_find_34 : decode cX5_find 34 = .ok (.iload_n 2, 1) := by decide +kernel
theorem dX5_find_35 : decode cX5_find 35 = .ok (.aload_n 3, 1) := by decide +kernel
theorem dX5_find_36 : decode cX5_find 36 = .ok (.ifnonnull 7, 3) := by decide +kernel
theorem dX5_find_39 : decode cX5_find 39 = .ok (.iconst 0, 1) := by decide +kernel
theorem dX5_find_40 : decode cX5_find 40 = .ok (.goto 14, 3) := by decide +kernel
theorem dX5_find_43 : decode cX5_find 43 = .ok (.aload_n 3, 1) := by decide +kernel
theorem dX5_find_44 : decode cX5_find 44 = .ok (.iconst 1, 1) := by decide +kernel
theorem dX5_find_45 : decode cX5_find 45 = .ok (.aload_n 0, 1) := by decide +kernel
theorem dX5_find_46 : decode cX5_find 46 = .ok (.getfield 24, 3) := by decide +kernel
theorem dX5_find_49 : decode cX5_find 49 = .ok (.iload_n 2, 1) := by decide +kernel
theorem dX5_find_50 : decode cX5_find 50 = .ok (.aaload, 1) := by decide +kernel
theorem dX5_find_51 : decode cX5_find 51 = .ok (.invokevirtual 62, 3) := by decide +kernel
theorem dX5_find_54 : decode cX5_find 54 = .ok (.iastore, 1) := by decide +kernel
theorem dX5_find_55 : decode cX5_find 55 = .ok (.iinc 2 1, 3) := by decide +kernel
theorem dX5_find_58 : decode cX5_find 58 = .ok (.goto (-49), 3) := by decide +kernel
theorem dX5_find_61 : decode cX5_find 61 = .ok (.aload_n 0, 1) := by decide +kernel
theorem dX5_find_62 : decode cX5_find 62 = .ok (.iconst 0, 1) := by decide +kernel
theorem dX5_find_63 : decode cX5_find 63 = .ok (.putfield 68, 3) := by decide +kernel
theorem dX5_find_66 : decode cX5_find 66 = .ok (.aload_n 0, 1) := by decide +kernel
theorem dX5_find_67 : decode cX5_find 67 = .ok (.getfield 34, 3) := by decide +kernel
theorem dX5_find_70 : decode cX5_find 70 = .ok (.iconst 0, 1) := by decide +kernel
theorem dX5_find_71 : decode cX5_find 71 = .ok (.aload_n 0, 1) := by decide +kernel
theorem dX5_find_72 : decode cX5_find 72 = .ok (.getfield 9, 3) := by decide +kernel
theorem dX5_find_75 : decode cX5_find 75 = .ok (.getfield 71, 3) := by decide +kernel
theorem dX5_find_78 : decode cX5_find 78 = .ok (.iastore, 1) := by decide +kernel
theorem dX5_find_79 : decode cX5_find 79 = .ok (.aload_n 0, 1) := by decide +kernel
theorem dX5_find_80 : decode cX5_find 80 = .ok (.getfield 9, 3) := by decide +kernel
theorem dX5_find_83 : decode cX5_find 83 = .ok (.getfield 74, 3) := by decide +kernel
theorem dX5_find_86 : decode cX5_find 86 = .ok (.aload_n 0, 1) := by decide +kernel
theorem dX5_find_87 : decode cX5_find 87 = .ok (.getfield 31, 3) := by decide +kernel
theorem dX5_find_90 : decode cX5_find 90 = .ok (.iconst 0, 1) := by decide +kernel
theorem dX5_find_91 : decode cX5_find 91 = .ok (.aaload, 1) := by decide +kernel
theorem dX5_find_92 : decode cX5_find 92 = .ok (.invokestatic 77, 3) := by decide +kernel
theorem dX5_find_95 : decode cX5_find 95 = .ok (.iconst 0, 1) := by decide +kernel
theorem dX5_find_96 : decode cX5_find 96 = .ok (.istore_n 2, 1) := by decide +kernel
theorem dX5_find_97 : decode cX5_find 97 = .ok (.iload_n 2, 1) := by decide +kernel
theorem dX5_find_98 : decode cX5_find 98 = .ok (.iload_n 1, 1) := by decide +kernel
theorem dX5_find_99 : decode cX5_find 99 = .ok (.if_icmp .gt 28, 3) := by decide +kernel
theorem dX5_find_102 : decode cX5_find 102 = .ok (.iload_n 2, 1) := by decide +kernel
theorem dX5_find_103 : decode cX5_find 103 = .ok (.iconst 5, 1) := by decide +kernel
theorem dX5_find_104 : decode cX5_find 104 = .ok (.if_icmp .gt 23, 3) := by decide +kernel
theorem dX5_find_107 : decode cX5_find 107 = .ok (.aload_n 0, 1) := by decide +kernel
theorem dX5_find_108 : decode cX5_find 108 = .ok (.iconst 0, 1) := by decide +kernel
theorem dX5_find_109 : decode cX5_find 109 = .ok (.iload_n 2, 1) := by decide +kernel
theorem dX5_find_110 : decode cX5_find 110 = .ok (.invokevirtual 81, 3) := by decide +kernel
theorem dX5_find_113 : decode cX5_find 113 = .ok (.ifCond .eq 8, 3) := by decide +kernel
theorem dX5_find_116 : decode cX5_find 116 = .ok (.aload_n 0, 1) := by decide +kernel
theorem dX5_find_117 : decode cX5_find 117 = .ok (.getfield 68, 3) := by decide +kernel
theorem dX5_find_120 : decode cX5_find 120 = .ok (.ireturn, 1) := by decide +kernel
theorem dX5_find_121 : decode cX5_find 121 = .ok (.iinc 2 1, 3) := by decide +kernel
theorem dX5_find_124 : decode cX5_find 124 = .ok (.goto (-27), 3) := by decide +kernel
theorem dX5_find_127 : decode cX5_find 127 = .ok (.bipush (-9), 2) := by decide +kernel
theorem dX5_find_129 : decode cX5_find 129 = .ok (.ireturn, 1) := by decide +kernel
theorem dX5_goThrough_0 : decode cX5_goThrough 0 = .ok (.iload_n 2, 1) := by decide +kernel
theorem dX5_goThrough_1 : decode cX5_goThrough 1 = .ok (.ifCond .le 8, 3) := by decide +kernel
theorem dX5_goThrough_4 : decode cX5_goThrough 4 = .ok (.iload_n 1, 1) := by decide +kernel
theorem dX5_goThrough_5 : decode cX5_goThrough 5 = .ok (.iconst 5, 1) := by decide +kernel
theorem dX5_goThrough_6 : decode cX5_goThrough 6 = .ok (.if_icmp .lt 19, 3) := by decide +kernel
theorem dX5_goThrough_9 : decode cX5_goThrough 9 = .ok (.aload_n 0, 1) := by decide +kernel
theorem dX5_goThrough_10 : decode cX5_goThrough 10 = .ok (.dup, 1) := by decide +kernel
theorem dX5_goThrough_11 : decode cX5_goThrough 11 = .ok (.getfield 68, 3) := by decide +kernel
theorem dX5_goThrough_14 : decode cX5_goThrough 14 = .ok (.iconst 1, 1) := by decide +kernel
theorem dX5_goThrough_15 : decode cX5_goThrough 15 = .ok (.iadd, 1) := by decide +kernel
theorem dX5_goThrough_16 : decode cX5_goThrough 16 = .ok (.putfield 68, 3) := by decide +kernel
theorem dX5_goThrough_19 : decode cX5_goThrough 19 = .ok (.aload_n 0, 1) := by decide +kernel
theorem dX5_goThrough_20 : decode cX5_goThrough 20 = .ok (.iload_n 1, 1) := by decide +kernel
theorem dX5_goThrough_21 : decode cX5_goThrough 21 = .ok (.invokevirtual 85, 3) := by decide +kernel
theorem dX5_goThrough_24 : decode cX5_goThrough 24 = .ok (.ireturn, 1) := by decide +kernel
theorem dX5_goThrough_25 : decode cX5_goThrough 25 = .ok (.aload_n 0, 1) := by decide +kernel
theorem dX5_goThrough_26 : decode cX5_goThrough 26 = .ok (.iload_n 1, 1) := by decide +kernel
theorem dX5_goThrough_27 : decode cX5_goThrough 27 = .ok (.iload_n 2, 1) := by decide +kernel
theorem dX5_goThrough_28 : decode cX5_goThrough 28 = .ok (.invokevirtual 89, 3) := by decide +kernel
theorem dX5_goThrough_31 : decode cX5_goThrough 31 = .ok (.istore_n 3, 1) := by decide +kernel
theorem dX5_goThrough_32 : decode cX5_goThrough 32 = .ok (.aload_n 0, 1) := by decide +kernel
theorem dX5_goThrough_33 : decode cX5_goThrough 33 = .ok (.getfield 18, 3) := by decide +kernel
theorem dX5_goThrough_36 : decode cX5_goThrough 36 = .ok (.iload_n 3, 1) := by decide +kernel
theorem dX5_goThrough_37 : decode cX5_goThrough 37 = .ok (.invokevirtual 93, 3) := by decide +kernel
theorem dX5_goThrough_40 : decode cX5_goThrough 40 = .ok (.istore 4, 2) := by decide +kernel
theorem dX5_goThrough_42 : decode cX5_goThrough 42 = .ok (.iload 4, 2) := by decide +kernel
theorem dX5_goThrough_44 : decode cX5_goThrough 44 = .ok (.ifCond .lt 16, 3) := by decide +kernel
theorem dX5_goThrough_47 : decode cX5_goThrough 47 = .ok (.aload_n 0, 1) := by decide +kernel
theorem dX5_goThrough_48 : decode cX5_goThrough 48 = .ok (.dup, 1) := by decide +kernel
theorem dX5_goThrough_49 : decode cX5_goThrough 49 = .ok (.getfield 68, 3) := by decide +kernel
theorem dX5_goThrough_52 : decode cX5_goThrough 52 = .ok (.iload 4, 2) := by decide +kernel
theorem dX5_goThrough_54 : decode cX5_goThrough 54 = .ok (.iadd, 1) := by decide +kernel
theorem dX5_goThrough_55 : decode cX5_goThrough 55 = .ok (.putfield 68, 3) := by decide +kernel
theorem dX5_goThrough_58 : decode cX5_goThrough 58 = .ok (.iconst 0, 1) := by decide +kernel
theorem dX5_goThrough_59 : decode cX5_goThrough 59 = .ok (.ireturn, 1) := by decide +kernel
theorem dX5_goThrough_60 : decode cX5_goThrough 60 = .ok (.aload_n 0, 1) := by decide +kernel
theorem dX5_goThrough_61 : decode cX5_goThrough 61 = .ok (.getfield 68, 3) := by decide +kernel
theorem dX5_goThrough_64 : decode cX5_goThrough 64 = .ok (.istore 5, 2) := by decide +kernel
theorem dX5_goThrough_66 : decode cX5_goThrough 66 = .ok (.iconst 0, 1) := by decide +kernel
theorem dX5_goThrough_67 : decode cX5_goThrough 67 = .ok (.istore 6, 2) := by decide +kernel
theorem dX5_goThrough_69 : decode cX5_goThrough 69 = .ok (.iload 6, 2) := by decide +kernel
theorem dX5_goThrough_71 : decode cX5_goThrough 71 = .ok (.aload_n 0, 1) := by decide +kernel
theorem dX5_goThrough_72 : decode cX5_goThrough 72 = .ok (.getfield 9, 3) := by decide +kernel
theorem dX5_goThrough_75 : decode cX5_goThrough 75 = .ok (.getfield 97, 3) := by decide +kernel
theorem dX5_goThrough_78 : decode cX5_goThrough 78 = .ok (.if_icmp .ge 122, 3) := by decide +kernel
theorem dX5_goThrough_81 : decode cX5_goThrough 81 = .ok (.aload_n 0, 1) := by decide +kernel
theorem dX5_goThrough_82 : decode cX5_goThrough 82 = .ok (.getfield 9, 3) := by decide +kernel
theorem dX5_goThrough_85 : decode cX5_goThrough 85 = .ok (.iload 6, 2) := by decide +kernel
theorem dX5_goThrough_87 : decode cX5_goThrough 87 = .ok (.invokevirtual 100, 3) := by decide +kernel
theorem dX5_goThrough_90 : decode cX5_goThrough 90 = .ok (.astore 7, 2) := by decide +kernel
theorem dX5_goThrough_92 : decode cX5_goThrough 92 = .ok (.aload 7, 2) := by decide +kernel
theorem dX5_goThrough_94 : decode cX5_goThrough 94 = .ok (.ifnull 100, 3) := by decide +kernel
theorem dX5_goThrough_97 : decode cX5_goThrough 97 = .ok (.aload 7, 2) := by decide +kernel
theorem dX5_goThrough_99 : decode cX5_goThrough 99 = .ok (.getfield 104, 3) := by decide +kernel
theorem dX5_goThrough_102 : decode cX5_goThrough 102 = .ok (.aload_n 0, 1) := by decide +kernel
theorem dX5_goThrough_103 : decode cX5_goThrough 103 = .ok (.getfield 34, 3) := by decide +kernel
theorem dX5_goThrough_106 : decode cX5_goThrough 106 = .ok (.iload_n 1, 1) := by decide +kernel
theorem dX5_goThrough_107 : decode cX5_goThrough 107 = .ok (.iaload, 1) := by decide +kernel
theorem dX5_goThrough_108 : decode cX5_goThrough 108 = .ok (.if_icmp .eq 6, 3) := by decide +kernel
theorem dX5_goThrough_111 : decode cX5_goThrough 111 = .ok (.goto 83, 3) := by decide +kernel
theorem dX5_goThrough_114 : decode cX5_goThrough 114 = .ok (.aload_n 0, 1) := by decide +kernel
theorem dX5_goThrough_115 : decode cX5_goThrough 115 = .ok (.getfield 37, 3) := by decide +kernel
theorem dX5_goThrough_118 : decode cX5_goThrough 118 = .ok (.iload_n 1, 1) := by decide +kernel
theorem dX5_goThrough_119 : decode cX5_goThrough 119 = .ok (.iload 6, 2) := by decide +kernel
theorem dX5_goThrough_121 : decode cX5_goThrough 121 = .ok (.iastore, 1) := by decide +kernel
theorem dX5_goThrough_122 : decode cX5_goThrough 122 = .ok (.aload_n 0, 1) := by decide +kernel
theorem dX5_goThrough_123 : decode cX5_goThrough 123 = .ok (.getfield 34, 3) := by decide +kernel
theorem dX5_goThrough_126 : decode cX5_goThrough 126 = .ok (.iload_n 1, 1) := by decide +kernel
theorem dX5_goThrough_127 : decode cX5_goThrough 127 = .ok (.iconst 1, 1) := by decide +kernel
theorem dX5_goThrough_128 : decode cX5_goThrough 128 = .ok (.iadd, 1) := by decide +kernel
theorem dX5_goThrough_129 : decode cX5_goThrough 129 = .ok (.aload 7, 2) := by decide +kernel
theorem dX5_goThrough_131 : decode cX5_goThrough 131 = .ok (.getfield 109, 3) := by decide +kernel
theorem dX5_goThrough_134 : decode cX5_goThrough 134 = .ok (.iastore, 1) := by decide +kernel
theorem dX5_goThrough_135 : decode cX5_goThrough 135 = .ok (.aload 7, 2) := by decide +kernel
theorem dX5_goThrough_137 : decode cX5_goThrough 137 = .ok (.aload_n 0, 1) := by decide +kernel
theorem dX5_goThrough_138 : decode cX5_goThrough 138 = .ok (.getfield 31, 3) := by decide +kernel
theorem dX5_goThrough_141 : decode cX5_goThrough 141 = .ok (.iload_n 1, 1) := by decide +kernel
theorem dX5_goThrough_142 : decode cX5_goThrough 142 = .ok (.aaload, 1) := by decide +kernel
theorem dX5_goThrough_143 : decode cX5_goThrough 143 = .ok (.aload_n 0, 1) := by decide +kernel
theorem dX5_goThrough_144 : decode cX5_goThrough 144 = .ok (.getfield 31, 3) := by decide +kernel
theorem dX5_goThrough_147 : decode cX5_goThrough 147 = .ok (.iload_n 1, 1) := by decide +kernel
theorem dX5_goThrough_148 : decode cX5_goThrough 148 = .ok (.iconst 1, 1) := by decide +kernel
theorem dX5_goThrough_149 : decode cX5_goThrough 149 = .ok (.iadd, 1) := by decide +kernel
theorem dX5_goThrough_150 : decode cX5_goThrough 150 = .ok (.aaload, 1) := by decide +kernel
theorem dX5_goThrough_151 : decode cX5_goThrough 151 = .ok (.invokevirtual 112, 3) := by decide +kernel
theorem dX5_goThrough_154 : decode cX5_goThrough 154 = .ok (.ifCond .ne 25, 3) := by decide +kernel
theorem dX5_goThrough_157 : decode cX5_goThrough 157 = .ok (.aload_n 0, 1) := by decide +kernel
theorem dX5_goThrough_158 : decode cX5_goThrough 158 = .ok (.dup, 1) := by decide +kernel
theorem dX5_goThrough_159 : decode cX5_goThrough 159 = .ok (.getfield 68, 3) := by decide +kernel
theorem dX5_goThrough_162 : decode cX5_goThrough 162 = .ok (.iload_n 2, 1) := by decide +kernel
theorem dX5_goThrough_163 : decode cX5_goThrough 163 = .ok (.iconst 1, 1) := by decide +kernel
theorem dX5_goThrough_164 : decode cX5_goThrough 164 = .ok (.if_icmp .ne 7, 3) := by decide +kernel
theorem dX5_goThrough_167 : decode cX5_goThrough 167 = .ok (.iconst 1, 1) := by decide +kernel
theorem dX5_goThrough_168 : decode cX5_goThrough 168 = .ok (.goto 4, 3) := by decide +kernel
theorem dX5_goThrough_171 : decode cX5_goThrough 171 = .ok (.iconst 0, 1) := by decide +kernel
theorem dX5_goThrough_172 : decode cX5_goThrough 172 = .ok (.iadd, 1) := by decide +kernel
theorem dX5_goThrough_173 : decode cX5_goThrough 173 = .ok (.putfield 68, 3) := by decide +kernel
theorem dX5_goThrough_176 : decode cX5_goThrough 176 = .ok (.goto 18, 3) := by decide +kernel
theorem dX5_goThrough_179 : decode cX5_goThrough 179 = .ok (.aload_n 0, 1) := by decide +kernel
theorem dX5_goThrough_180 : decode cX5_goThrough 180 = .ok (.iload_n 1, 1) := by decide +kernel
theorem dX5_goThrough_181 : decode cX5_goThrough 181 = .ok (.iconst 1, 1) := by decide +kernel
theorem dX5_goThrough_182 : decode cX5_goThrough 182 = .ok (.iadd, 1) := by decide +kernel
theorem dX5_goThrough_183 : decode cX5_goThrough 183 = .ok (.iload_n 2, 1) := by decide +kernel
theorem dX5_goThrough_184 : decode cX5_goThrough 184 = .ok (.iconst 1, 1) := by decide +kernel
theorem dX5_goThrough_185 : decode cX5_goThrough 185 = .ok (.isub, 1) := by decide +kernel
theorem dX5_goThrough_186 : decode cX5_goThrough 186 = .ok (.invokevirtual 81, 3) := by decide +kernel
theorem dX5_goThrough_189 : decode cX5_goThrough 189 = .ok (.ifCond .eq 5, 3) := by decide +kernel
theorem dX5_goThrough_192 : decode cX5_goThrough 192 = .ok (.iconst 1, 1) := by decide +kernel
theorem dX5_goThrough_193 : decode cX5_goThrough 193 = .ok (.ireturn, 1) := by decide +kernel
theorem dX5_goThrough_194 : decode cX5_goThrough 194 = .ok (.iinc 6 1, 3) := by decide +kernel
theorem dX5_goThrough_197 : decode cX5_goThrough 197 = .ok (.goto (-128), 3) := by decide +kernel
theorem dX5_goThrough_200 : decode cX5_goThrough 200 = .ok (.aload_n 0, 1) := by decide +kernel
theorem dX5_goThrough_201 : decode cX5_goThrough 201 = .ok (.getfield 18, 3) := by decide +kernel
theorem dX5_goThrough_204 : decode cX5_goThrough 204 = .ok (.iload_n 3, 1) := by decide +kernel
theorem dX5_goThrough_205 : decode cX5_goThrough 205 = .ok (.aload_n 0, 1) := by decide +kernel
theorem dX5_goThrough_206 : decode cX5_goThrough 206 = .ok (.getfield 68, 3) := by decide +kernel
theorem dX5_goThrough_209 : decode cX5_goThrough 209 = .ok (.iload 5, 2) := by decide +kernel
theorem dX5_goThrough_211 : decode cX5_goThrough 211 = .ok (.isub, 1) := by decide +kernel
theorem dX5_goThrough_212 : decode cX5_goThrough 212 = .ok (.invokevirtual 116, 3) := by decide +kernel
theorem dX5_goThrough_215 : decode cX5_goThrough 215 = .ok (.iconst 0, 1) := by decide +kernel
theorem dX5_goThrough_216 : decode cX5_goThrough 216 = .ok (.ireturn, 1) := by decide +kernel
theorem dX5_keyOf_0 : decode cX5_keyOf 0 = .ok (.aload_n 0, 1) := by decide +kernel
theorem dX5_keyOf_1 : decode cX5_keyOf 1 = .ok (.getfield 9, 3) := by decide +kernel
theorem dX5_keyOf_4 : decode cX5_keyOf 4 = .ok (.aload_n 0, 1) := by decide +kernel
theorem dX5_keyOf_5 : decode cX5_keyOf 5 = .ok (.getfield 34, 3) := by decide +kernel
theorem dX5_keyOf_8 : decode cX5_keyOf 8 = .ok (.iload_n 1, 1) := by decide +kernel
theorem dX5_keyOf_9 : decode cX5_keyOf 9 = .ok (.iaload, 1) := by decide +kernel
theorem dX5_keyOf_10 : decode cX5_keyOf 10 = .ok (.invokevirtual 120, 3) := by decide +kernel
theorem dX5_keyOf_13 : decode cX5_keyOf 13 = .ok (.astore_n 3, 1) := by decide +kernel
theorem dX5_keyOf_14 : decode cX5_keyOf 14 = .ok (.aload_n 0, 1) := by decide +kernel
theorem dX5_keyOf_15 : decode cX5_keyOf 15 = .ok (.getfield 34, 3) := by decide +kernel
theorem dX5_keyOf_18 : decode cX5_keyOf 18 = .ok (.iload_n 1, 1) := by decide +kernel
theorem dX5_keyOf_19 : decode cX5_keyOf 19 = .ok (.iaload, 1) := by decide +kernel
theorem dX5_keyOf_20 : decode cX5_keyOf 20 = .ok (.bipush 6, 2) := by decide +kernel
theorem dX5_keyOf_22 : decode cX5_keyOf 22 = .ok (.imul, 1) := by decide +kernel
theorem dX5_keyOf_23 : decode cX5_keyOf 23 = .ok (.iload_n 2, 1) := by decide +kernel
theorem dX5_keyOf_24 : decode cX5_keyOf 24 = .ok (.iadd, 1) := by decide +kernel
theorem dX5_keyOf_25 : decode cX5_keyOf 25 = .ok (.istore 4, 2) := by decide +kernel
theorem dX5_keyOf_27 : decode cX5_keyOf 27 = .ok (.iconst 0, 1) := by decide +kernel
theorem dX5_keyOf_28 : decode cX5_keyOf 28 = .ok (.istore 5, 2) := by decide +kernel
theorem dX5_keyOf_30 : decode cX5_keyOf 30 = .ok (.iload 5, 2) := by decide +kernel
theorem dX5_keyOf_32 : decode cX5_keyOf 32 = .ok (.iconst 4, 1) := by decide +kernel
theorem dX5_keyOf_33 : decode cX5_keyOf 33 = .ok (.if_icmp .ge 58, 3) := by decide +kernel
theorem dX5_keyOf_36 : decode cX5_keyOf 36 = .ok (.aload_n 3, 1) := by decide +kernel
theorem dX5_keyOf_37 : decode cX5_keyOf 37 = .ok (.ifnull 16, 3) := by decide +kernel
theorem dX5_keyOf_40 : decode cX5_keyOf 40 = .ok (.aload_n 3, 1) := by decide +kernel
theorem dX5_keyOf_41 : decode cX5_keyOf 41 = .ok (.iload 5, 2) := by decide +kernel
theorem dX5_keyOf_43 : decode cX5_keyOf 43 = .ok (.invokevirtual 124, 3) := by decide +kernel
theorem dX5_keyOf_46 : decode cX5_keyOf 46 = .ok (.ifCond .eq 7, 3) := by decide +kernel
theorem dX5_keyOf_49 : decode cX5_keyOf 49 = .ok (.iconst 1, 1) := by decide +kernel
theorem dX5_keyOf_50 : decode cX5_keyOf 50 = .ok (.goto 4, 3) := by decide +kernel
theorem dX5_keyOf_53 : decode cX5_keyOf 53 = .ok (.iconst 0, 1) := by decide +kernel
theorem dX5_keyOf_54 : decode cX5_keyOf 54 = .ok (.istore 6, 2) := by decide +kernel
theorem dX5_keyOf_56 : decode cX5_keyOf 56 = .ok (.iload 4, 2) := by decide +kernel
theorem dX5_keyOf_58 : decode cX5_keyOf 58 = .ok (.bipush 61, 2) := by decide +kernel
theorem dX5_keyOf_60 : decode cX5_keyOf 60 = .ok (.imul, 1) := by decide +kernel
theorem dX5_keyOf_61 : decode cX5_keyOf 61 = .ok (.iload 6, 2) := by decide +kernel
theorem dX5_keyOf_63 : decode cX5_keyOf 63 = .ok (.ifCond .eq 18, 3) := by decide +kernel
theorem dX5_keyOf_66 : decode cX5_keyOf 66 = .ok (.aload_n 0, 1) := by decide +kernel
theorem dX5_keyOf_67 : decode cX5_keyOf 67 = .ok (.getfield 31, 3) := by decide +kernel
theorem dX5_keyOf_70 : decode cX5_keyOf 70 = .ok (.iload_n 1, 1) := by decide +kernel
theorem dX5_keyOf_71 : decode cX5_keyOf 71 = .ok (.aaload, 1) := by decide +kernel
theorem dX5_keyOf_72 : decode cX5_keyOf 72 = .ok (.iload 5, 2) := by decide +kernel
theorem dX5_keyOf_74 : decode cX5_keyOf 74 = .ok (.iaload, 1) := by decide +kernel
theorem dX5_keyOf_75 : decode cX5_keyOf 75 = .ok (.bipush 30, 2) := by decide +kernel
theorem dX5_keyOf_77 : decode cX5_keyOf 77 = .ok (.iadd, 1) := by decide +kernel
theorem dX5_keyOf_78 : decode cX5_keyOf 78 = .ok (.goto 4, 3) := by decide +kernel
theorem dX5_keyOf_81 : decode cX5_keyOf 81 = .ok (.iconst 0, 1) := by decide +kernel
theorem dX5_keyOf_82 : decode cX5_keyOf 82 = .ok (.iadd, 1) := by decide +kernel
theorem dX5_keyOf_83 : decode cX5_keyOf 83 = .ok (.istore 4, 2) := by decide +kernel
theorem dX5_keyOf_85 : decode cX5_keyOf 85 = .ok (.iinc 5 1, 3) := by decide +kernel
theorem dX5_keyOf_88 : decode cX5_keyOf 88 = .ok (.goto (-58), 3) := by decide +kernel
theorem dX5_keyOf_91 : decode cX5_keyOf 91 = .ok (.iload 4, 2) := by decide +kernel
theorem dX5_keyOf_93 : decode cX5_keyOf 93 = .ok (.ireturn, 1) := by decide +kernel
theorem dX5_breaksAt_0 : decode cX5_breaksAt 0 = .ok (.aload_n 0, 1) := by decide +kernel
theorem dX5_breaksAt_1 : decode cX5_breaksAt 1 = .ok (.getfield 34, 3) := by decide +kernel
theorem dX5_breaksAt_4 : decode cX5_breaksAt 4 = .ok (.iload_n 1, 1) := by decide +kernel
theorem dX5_breaksAt_5 : decode cX5_breaksAt 5 = .ok (.iaload, 1) := by decide +kernel
theorem dX5_breaksAt_6 : decode cX5_breaksAt 6 = .ok (.istore_n 2, 1) := by decide +kernel
theorem dX5_breaksAt_7 : decode cX5_breaksAt 7 = .ok (.aload_n 0, 1) := by decide +kernel
theorem dX5_breaksAt_8 : decode cX5_breaksAt 8 = .ok (.getfield 9, 3) := by decide +kernel
theorem dX5_breaksAt_11 : decode cX5_breaksAt 11 = .ok (.iload_n 2, 1) := by decide +kernel
theorem dX5_breaksAt_12 : decode cX5_breaksAt 12 = .ok (.iconst 0, 1) := by decide +kernel
theorem dX5_breaksAt_13 : decode cX5_breaksAt 13 = .ok (.invokevirtual 58, 3) := by decide +kernel
theorem dX5_breaksAt_16 : decode cX5_breaksAt 16 = .ok (.astore_n 3, 1) := by decide +kernel
theorem dX5_breaksAt_17 : decode cX5_breaksAt 17 = .ok (.aload_n 3, 1) := by decide +kernel
theorem dX5_breaksAt_18 : decode cX5_breaksAt 18 = .ok (.ifnonnull 5, 3) := by decide +kernel
theorem dX5_breaksAt_21 : decode cX5_breaksAt 21 = .ok (.iconst 0, 1) := by decide +kernel
theorem dX5_breaksAt_22 : decode cX5_breaksAt 22 = .ok (.ireturn, 1) := by decide +kernel
theorem dX5_breaksAt_23 : decode cX5_breaksAt 23 = .ok (.iconst 0, 1) := by decide +kernel
theorem dX5_breaksAt_24 : decode cX5_breaksAt 24 = .ok (.istore 4, 2) := by decide +kernel
theorem dX5_breaksAt_26 : decode cX5_breaksAt 26 = .ok (.iload 4, 2) := by decide +kernel
theorem dX5_breaksAt_28 : decode cX5_breaksAt 28 = .ok (.aload_n 0, 1) := by decide +kernel
theorem dX5_breaksAt_29 : decode cX5_breaksAt 29 = .ok (.getfield 27, 3) := by decide +kernel
theorem dX5_breaksAt_32 : decode cX5_breaksAt 32 = .ok (.iload_n 2, 1) := by decide +kernel
theorem dX5_breaksAt_33 : decode cX5_breaksAt 33 = .ok (.iaload, 1) := by decide +kernel
theorem dX5_breaksAt_34 : decode cX5_breaksAt 34 = .ok (.if_icmp .ge 62, 3) := by decide +kernel
theorem dX5_breaksAt_37 : decode cX5_breaksAt 37 = .ok (.aload_n 0, 1) := by decide +kernel
theorem dX5_breaksAt_38 : decode cX5_breaksAt 38 = .ok (.getfield 24, 3) := by decide +kernel
theorem dX5_breaksAt_41 : decode cX5_breaksAt 41 = .ok (.iload_n 2, 1) := by decide +kernel
theorem dX5_breaksAt_42 : decode cX5_breaksAt 42 = .ok (.aaload, 1) := by decide +kernel
theorem dX5_breaksAt_43 : decode cX5_breaksAt 43 = .ok (.iload 4, 2) := by decide +kernel
theorem dX5_breaksAt_45 : decode cX5_breaksAt 45 = .ok (.iaload, 1) := by decide +kernel
theorem dX5_breaksAt_46 : decode cX5_breaksAt 46 = .ok (.istore 5, 2) := by decide +kernel
theorem dX5_breaksAt_48 : decode cX5_breaksAt 48 = .ok (.aload_n 3, 1) := by decide +kernel
theorem dX5_breaksAt_49 : decode cX5_breaksAt 49 = .ok (.aload_n 0, 1) := by decide +kernel
theorem dX5_breaksAt_50 : decode cX5_breaksAt 50 = .ok (.getfield 31, 3) := by decide +kernel
theorem dX5_breaksAt_53 : decode cX5_breaksAt 53 = .ok (.iload_n 1, 1) := by decide +kernel
theorem dX5_breaksAt_54 : decode cX5_breaksAt 54 = .ok (.aaload, 1) := by decide +kernel
theorem dX5_breaksAt_55 : decode cX5_breaksAt 55 = .ok (.iload 5, 2) := by decide +kernel
theorem dX5_breaksAt_57 : decode cX5_breaksAt 57 = .ok (.invokestatic 129, 3) := by decide +kernel
theorem dX5_breaksAt_60 : decode cX5_breaksAt 60 = .ok (.iload 5, 2) := by decide +kernel
theorem dX5_breaksAt_62 : decode cX5_breaksAt 62 = .ok (.invokestatic 132, 3) := by decide +kernel
theorem dX5_breaksAt_65 : decode cX5_breaksAt 65 = .ok (.iload 5, 2) := by decide +kernel
theorem dX5_breaksAt_67 : decode cX5_breaksAt 67 = .ok (.invokestatic 135, 3) := by decide +kernel
theorem dX5_breaksAt_70 : decode cX5_breaksAt 70 = .ok (.invokevirtual 138, 3) := by decide +kernel
theorem dX5_breaksAt_73 : decode cX5_breaksAt 73 = .ok (.ifCond .eq 17, 3) := by decide +kernel
theorem dX5_breaksAt_76 : decode cX5_breaksAt 76 = .ok (.aload_n 0, 1) := by decide +kernel
theorem dX5_breaksAt_77 : decode cX5_breaksAt 77 = .ok (.iload_n 2, 1) := by decide +kernel
theorem dX5_breaksAt_78 : decode cX5_breaksAt 78 = .ok (.iload 5, 2) := by decide +kernel
theorem dX5_breaksAt_80 : decode cX5_breaksAt 80 = .ok (.iload_n 1, 1) := by decide +kernel
theorem dX5_breaksAt_81 : decode cX5_breaksAt 81 = .ok (.aload_n 3, 1) := by decide +kernel
theorem dX5_breaksAt_82 : decode cX5_breaksAt 82 = .ok (.getfield 142, 3) := by decide +kernel
theorem dX5_breaksAt_85 : decode cX5_breaksAt 85 = .ok (.invokevirtual 145, 3) := by decide +kernel
theorem dX5_breaksAt_88 : decode cX5_breaksAt 88 = .ok (.iconst 1, 1) := by decide +kernel
theorem dX5_breaksAt_89 : decode cX5_breaksAt 89 = .ok (.ireturn, 1) := by decide +kernel
theorem dX5_breaksAt_90 : decode cX5_breaksAt 90 = .ok (.iinc 4 1, 3) := by decide +kernel
theorem dX5_breaksAt_93 : decode cX5_breaksAt 93 = .ok (.goto (-67), 3) := by decide +kernel
theorem dX5_breaksAt_96 : decode cX5_breaksAt 96 = .ok (.iconst 0, 1) := by decide +kernel
theorem dX5_breaksAt_97 : decode cX5_breaksAt 97 = .ok (.ireturn, 1) := by decide +kernel
theorem dX5_noteFound_0 : decode cX5_noteFound 0 = .ok (.aload_n 0, 1) := by decide +kernel
theorem dX5_noteFound_1 : decode cX5_noteFound 1 = .ok (.iload_n 1, 1) := by decide +kernel
theorem dX5_noteFound_2 : decode cX5_noteFound 2 = .ok (.putfield 46, 3) := by decide +kernel
theorem dX5_noteFound_5 : decode cX5_noteFound 5 = .ok (.aload_n 0, 1) := by decide +kernel
theorem dX5_noteFound_6 : decode cX5_noteFound 6 = .ok (.iload_n 2, 1) := by decide +kernel
theorem dX5_noteFound_7 : decode cX5_noteFound 7 = .ok (.putfield 149, 3) := by decide +kernel
theorem dX5_noteFound_10 : decode cX5_noteFound 10 = .ok (.aload_n 0, 1) := by decide +kernel
theorem dX5_noteFound_11 : decode cX5_noteFound 11 = .ok (.iload_n 3, 1) := by decide +kernel
theorem dX5_noteFound_12 : decode cX5_noteFound 12 = .ok (.putfield 152, 3) := by decide +kernel
theorem dX5_noteFound_15 : decode cX5_noteFound 15 = .ok (.aload_n 0, 1) := by decide +kernel
theorem dX5_noteFound_16 : decode cX5_noteFound 16 = .ok (.iload 4, 2) := by decide +kernel
theorem dX5_noteFound_18 : decode cX5_noteFound 18 = .ok (.putfield 155, 3) := by decide +kernel
theorem dX5_noteFound_21 : decode cX5_noteFound 21 = .ok (.aload_n 0, 1) := by decide +kernel
theorem dX5_noteFound_22 : decode cX5_noteFound 22 = .ok (.getfield 31, 3) := by decide +kernel
theorem dX5_noteFound_25 : decode cX5_noteFound 25 = .ok (.iload_n 3, 1) := by decide +kernel
theorem dX5_noteFound_26 : decode cX5_noteFound 26 = .ok (.aaload, 1) := by decide +kernel
theorem dX5_noteFound_27 : decode cX5_noteFound 27 = .ok (.aload_n 0, 1) := by decide +kernel
theorem dX5_noteFound_28 : decode cX5_noteFound 28 = .ok (.getfield 40, 3) := by decide +kernel
theorem dX5_noteFound_31 : decode cX5_noteFound 31 = .ok (.invokestatic 77, 3) := by decide +kernel
theorem dX5_noteFound_34 : decode cX5_noteFound 34 = .ok (.aload_n 0, 1) := by decide +kernel
theorem dX5_noteFound_35 : decode cX5_noteFound 35 = .ok (.getfield 37, 3) := by decide +kernel
theorem dX5_noteFound_38 : decode cX5_noteFound 38 = .ok (.aload_n 0, 1) := by decide +kernel
theorem dX5_noteFound_39 : decode cX5_noteFound 39 = .ok (.getfield 43, 3) := by decide +kernel
theorem dX5_noteFound_42 : decode cX5_noteFound 42 = .ok (.invokestatic 77, 3) := by decide +kernel
theorem dX5_noteFound_45 : decode cX5_noteFound 45 = .ok (.return_, 1) := by decide +kernel
theorem dX5_tell_0 : decode cX5_tell 0 = .ok (.aload_n 0, 1) := by decide +kernel
theorem dX5_tell_1 : decode cX5_tell 1 = .ok (.getfield 46, 3) := by decide +kernel
theorem dX5_tell_4 : decode cX5_tell 4 = .ok (.ifCond .lt 7, 3) := by decide +kernel
theorem dX5_tell_7 : decode cX5_tell 7 = .ok (.iload_n 1, 1) := by decide +kernel
theorem dX5_tell_8 : decode cX5_tell 8 = .ok (.ifCond .ge 6, 3) := by decide +kernel
theorem dX5_tell_11 : decode cX5_tell 11 = .ok (.bipush (-9), 2) := by decide +kernel
theorem dX5_tell_13 : decode cX5_tell 13 = .ok (.ireturn, 1) := by decide +kernel
theorem dX5_tell_14 : decode cX5_tell 14 = .ok (.iload_n 1, 1) := by decide +kernel
theorem dX5_tell_15 : decode cX5_tell 15 = .ok (.bipush 10, 2) := by decide +kernel
theorem dX5_tell_17 : decode cX5_tell 17 = .ok (.if_icmp .lt 29, 3) := by decide +kernel
theorem dX5_tell_20 : decode cX5_tell 20 = .ok (.iload_n 1, 1) := by decide +kernel
theorem dX5_tell_21 : decode cX5_tell 21 = .ok (.bipush 10, 2) := by decide +kernel
theorem dX5_tell_23 : decode cX5_tell 23 = .ok (.isub, 1) := by decide +kernel
theorem dX5_tell_24 : decode cX5_tell 24 = .ok (.aload_n 0, 1) := by decide +kernel
theorem dX5_tell_25 : decode cX5_tell 25 = .ok (.getfield 152, 3) := by decide +kernel
theorem dX5_tell_28 : decode cX5_tell 28 = .ok (.if_icmp .ge 15, 3) := by decide +kernel
theorem dX5_tell_31 : decode cX5_tell 31 = .ok (.aload_n 0, 1) := by decide +kernel
theorem dX5_tell_32 : decode cX5_tell 32 = .ok (.getfield 43, 3) := by decide +kernel
theorem dX5_tell_35 : decode cX5_tell 35 = .ok (.iload_n 1, 1) := by decide +kernel
theorem dX5_tell_36 : decode cX5_tell 36 = .ok (.bipush 10, 2) := by decide +kernel
theorem dX5_tell_38 : decode cX5_tell 38 = .ok (.isub, 1) := by decide +kernel
theorem dX5_tell_39 : decode cX5_tell 39 = .ok (.iaload, 1) := by decide +kernel
theorem dX5_tell_40 : decode cX5_tell 40 = .ok (.goto 5, 3) := by decide +kernel
theorem dX5_tell_43 : decode cX5_tell 43 = .ok (.bipush (-9), 2) := by decide +kernel
theorem dX5_tell_45 : decode cX5_tell 45 = .ok (.ireturn, 1) := by decide +kernel
theorem dX5_tell_46 : decode cX5_tell 46 = .ok (.iload_n 1, 1) := by decide +kernel
theorem dX5_tell_47 : decode cX5_tell 47 = .ok (.iconst 3, 1) := by decide +kernel
theorem dX5_tell_48 : decode cX5_tell 48 = .ok (.if_icmp .lt 27, 3) := by decide +kernel
theorem dX5_tell_51 : decode cX5_tell 51 = .ok (.iload_n 1, 1) := by decide +kernel
theorem dX5_tell_52 : decode cX5_tell 52 = .ok (.iconst 3, 1) := by decide +kernel
theorem dX5_tell_53 : decode cX5_tell 53 = .ok (.isub, 1) := by decide +kernel
theorem dX5_tell_54 : decode cX5_tell 54 = .ok (.aload_n 0, 1) := by decide +kernel
theorem dX5_tell_55 : decode cX5_tell 55 = .ok (.getfield 155, 3) := by decide +kernel
theorem dX5_tell_58 : decode cX5_tell 58 = .ok (.if_icmp .ge 14, 3) := by decide +kernel
theorem dX5_tell_61 : decode cX5_tell 61 = .ok (.aload_n 0, 1) := by decide +kernel
theorem dX5_tell_62 : decode cX5_tell 62 = .ok (.getfield 40, 3) := by decide +kernel
theorem dX5_tell_65 : decode cX5_tell 65 = .ok (.iload_n 1, 1) := by decide +kernel
theorem dX5_tell_66 : decode cX5_tell 66 = .ok (.iconst 3, 1) := by decide +kernel
theorem dX5_tell_67 : decode cX5_tell 67 = .ok (.isub, 1) := by decide +kernel
theorem dX5_tell_68 : decode cX5_tell 68 = .ok (.iaload, 1) := by decide +kernel
theorem dX5_tell_69 : decode cX5_tell 69 = .ok (.goto 5, 3) := by decide +kernel
theorem dX5_tell_72 : decode cX5_tell 72 = .ok (.bipush (-9), 2) := by decide +kernel
theorem dX5_tell_74 : decode cX5_tell 74 = .ok (.ireturn, 1) := by decide +kernel
theorem dX5_tell_75 : decode cX5_tell 75 = .ok (.iload_n 1, 1) := by decide +kernel
theorem dX5_tell_76 : decode cX5_tell 76 = .ok (.iconst 2, 1) := by decide +kernel
theorem dX5_tell_77 : decode cX5_tell 77 = .ok (.if_icmp .ne 8, 3) := by decide +kernel
theorem dX5_tell_80 : decode cX5_tell 80 = .ok (.aload_n 0, 1) := by decide +kernel
theorem dX5_tell_81 : decode cX5_tell 81 = .ok (.getfield 152, 3) := by decide +kernel
theorem dX5_tell_84 : decode cX5_tell 84 = .ok (.ireturn, 1) := by decide +kernel
theorem dX5_tell_85 : decode cX5_tell 85 = .ok (.iload_n 1, 1) := by decide +kernel
theorem dX5_tell_86 : decode cX5_tell 86 = .ok (.ifCond .ne 10, 3) := by decide +kernel
theorem dX5_tell_89 : decode cX5_tell 89 = .ok (.aload_n 0, 1) := by decide +kernel
theorem dX5_tell_90 : decode cX5_tell 90 = .ok (.getfield 46, 3) := by decide +kernel
theorem dX5_tell_93 : decode cX5_tell 93 = .ok (.goto 7, 3) := by decide +kernel
theorem dX5_tell_96 : decode cX5_tell 96 = .ok (.aload_n 0, 1) := by decide +kernel
theorem dX5_tell_97 : decode cX5_tell 97 = .ok (.getfield 149, 3) := by decide +kernel
theorem dX5_tell_100 : decode cX5_tell 100 = .ok (.ireturn, 1) := by decide +kernel
theorem dX6_init_0 : decode cX6_init 0 = .ok (.aload_n 0, 1) := by decide +kernel
theorem dX6_init_1 : decode cX6_init 1 = .ok (.invokespecial 1, 3) := by decide +kernel
theorem dX6_init_4 : decode cX6_init 4 = .ok (.aload_n 0, 1) := by decide +kernel
theorem dX6_init_5 : decode cX6_init 5 = .ok (.iload_n 1, 1) := by decide +kernel
theorem dX6_init_6 : decode cX6_init 6 = .ok (.putfield 7, 3) := by decide +kernel
theorem dX6_init_9 : decode cX6_init 9 = .ok (.aload_n 0, 1) := by decide +kernel
theorem dX6_init_10 : decode cX6_init 10 = .ok (.iload_n 1, 1) := by decide +kernel
theorem dX6_init_11 : decode cX6_init 11 = .ok (.iload_n 1, 1) := by decide +kernel
theorem dX6_init_12 : decode cX6_init 12 = .ok (.multianewarray 13 2, 4) := by decide +kernel
theorem dX6_init_16 : decode cX6_init 16 = .ok (.putfield 15, 3) := by decide +kernel
theorem dX6_init_19 : decode cX6_init 19 = .ok (.aload_n 0, 1) := by decide +kernel
theorem dX6_init_20 : decode cX6_init 20 = .ok (.iload_n 1, 1) := by decide +kernel
theorem dX6_init_21 : decode cX6_init 21 = .ok (.newarray .int, 2) := by decide +kernel
theorem dX6_init_23 : decode cX6_init 23 = .ok (.putfield 18, 3) := by decide +kernel
theorem dX6_init_26 : decode cX6_init 26 = .ok (.aload_n 0, 1) := by decide +kernel
theorem dX6_init_27 : decode cX6_init 27 = .ok (.iload_n 1, 1) := by decide +kernel
theorem dX6_init_28 : decode cX6_init 28 = .ok (.newarray .long, 2) := by decide +kernel
theorem dX6_init_30 : decode cX6_init 30 = .ok (.putfield 22, 3) := by decide +kernel
theorem dX6_init_33 : decode cX6_init 33 = .ok (.aload_n 0, 1) := by decide +kernel
theorem dX6_init_34 : decode cX6_init 34 = .ok (.iload_n 1, 1) := by decide +kernel
theorem dX6_init_35 : decode cX6_init 35 = .ok (.newarray .long, 2) := by decide +kernel
theorem dX6_init_37 : decode cX6_init 37 = .ok (.putfield 26, 3) := by decide +kernel
theorem dX6_init_40 : decode cX6_init 40 = .ok (.aload_n 0, 1) := by decide +kernel
theorem dX6_init_41 : decode cX6_init 41 = .ok (.iconst 0, 1) := by decide +kernel
theorem dX6_init_42 : decode cX6_init 42 = .ok (.putfield 29, 3) := by decide +kernel
theorem dX6_init_45 : decode cX6_init 45 = .ok (.return_, 1) := by decide +kernel
theorem dX6_clear_0 : decode cX6_clear 0 = .ok (.aload_n 0, 1) := by decide +kernel
theorem dX6_clear_1 : decode cX6_clear 1 = .ok (.iconst 0, 1) := by decide +kernel
theorem dX6_clear_2 : decode cX6_clear 2 = .ok (.putfield 29, 3) := by decide +kernel
theorem dX6_clear_5 : decode cX6_clear 5 = .ok (.return_, 1) := by decide +kernel
theorem dX6_add_0 : decode cX6_add 0 = .ok (.iconst 0, 1) := by decide +kernel
theorem dX6_add_1 : decode cX6_add 1 = .ok (.istore_n 2, 1) := by decide +kernel
theorem dX6_add_2 : decode cX6_add 2 = .ok (.iload_n 2, 1) := by decide +kernel
theorem dX6_add_3 : decode cX6_add 3 = .ok (.aload_n 0, 1) := by decide +kernel
theorem dX6_add_4 : decode cX6_add 4 = .ok (.getfield 7, 3) := by decide +kernel
theorem dX6_add_7 : decode cX6_add 7 = .ok (.iconst 1, 1) := by decide +kernel
theorem dX6_add_8 : decode cX6_add 8 = .ok (.isub, 1) := by decide +kernel
theorem dX6_add_9 : decode cX6_add 9 = .ok (.if_icmp .ge 19, 3) := by decide +kernel
theorem dX6_add_12 : decode cX6_add 12 = .ok (.aload_n 0, 1) := by decide +kernel
theorem dX6_add_13 : decode cX6_add 13 = .ok (.getfield 22, 3) := by decide +kernel
theorem dX6_add_16 : decode cX6_add 16 = .ok (.iload_n 2, 1) := by decide +kernel
theorem dX6_add_17 : decode cX6_add 17 = .ok (.aload_n 1, 1) := by decide +kernel
theorem dX6_add_18 : decode cX6_add 18 = .ok (.iload_n 2, 1) := by decide +kernel
theorem dX6_add_19 : decode cX6_add 19 = .ok (.iaload, 1) := by decide +kernel
theorem dX6_add_20 : decode cX6_add 20 = .ok (.i2l, 1) := by decide +kernel
theorem dX6_add_21 : decode cX6_add 21 = .ok (.lastore, 1) := by decide +kernel
theorem dX6_add_22 : decode cX6_add 22 = .ok (.iinc 2 1, 3) := by decide +kernel
theorem dX6_add_25 : decode cX6_add 25 = .ok (.goto (-23), 3) := by decide +kernel
theorem dX6_add_28 : decode cX6_add 28 = .ok (.aload_n 0, 1) := by decide +kernel
theorem dX6_add_29 : decode cX6_add 29 = .ok (.getfield 22, 3) := by decide +kernel
theorem dX6_add_32 : decode cX6_add 32 = .ok (.aload_n 0, 1) := by decide +kernel
theorem dX6_add_33 : decode cX6_add 33 = .ok (.getfield 7, 3) := by decide +kernel
theorem dX6_add_36 : decode cX6_add 36 = .ok (.iconst 1, 1) := by decide +kernel
theorem dX6_add_37 : decode cX6_add 37 = .ok (.isub, 1) := by decide +kernel
theorem dX6_add_38 : decode cX6_add 38 = .ok (.lconst 1, 1) := by decide +kernel
theorem dX6_add_39 : decode cX6_add 39 = .ok (.lastore, 1) := by decide +kernel
theorem dX6_add_40 : decode cX6_add 40 = .ok (.iconst 0, 1) := by decide +kernel
theorem dX6_add_41 : decode cX6_add 41 = .ok (.istore_n 2, 1) := by decide +kernel
theorem dX6_add_42 : decode cX6_add 42 = .ok (.iload_n 2, 1) := by decide +kernel
theorem dX6_add_43 : decode cX6_add 43 = .ok (.aload_n 0, 1) := by decide +kernel
theorem dX6_add_44 : decode cX6_add 44 = .ok (.getfield 29, 3) := by decide +kernel
theorem dX6_add_47 : decode cX6_add 47 = .ok (.if_icmp .ge 29, 3) := by decide +kernel
theorem dX6_add_50 : decode cX6_add 50 = .ok (.aload_n 0, 1) := by decide +kernel
theorem dX6_add_51 : decode cX6_add 51 = .ok (.aload_n 0, 1) := by decide +kernel
theorem dX6_add_52 : decode cX6_add 52 = .ok (.getfield 22, 3) := by decide +kernel
theorem dX6_add_55 : decode cX6_add 55 = .ok (.aload_n 0, 1) := by decide +kernel
theorem dX6_add_56 : decode cX6_add 56 = .ok (.getfield 15, 3) := by decide +kernel
theorem dX6_add_59 : decode cX6_add 59 = .ok (.iload_n 2, 1) := by decide +kernel
theorem dX6_add_60 : decode cX6_add 60 = .ok (.aaload, 1) := by decide +kernel
theorem dX6_add_61 : decode cX6_add 61 = .ok (.aload_n 0, 1) := by decide +kernel
theorem dX6_add_62 : decode cX6_add 62 = .ok (.getfield 18, 3) := by decide +kernel
theorem dX6_add_65 : decode cX6_add 65 = .ok (.iload_n 2, 1) := by decide +kernel
theorem dX6_add_66 : decode cX6_add 66 = .ok (.iaload, 1) := by decide +kernel
theorem dX6_add_67 : decode cX6_add 67 = .ok (.invokevirtual 32, 3) := by decide +kernel
theorem dX6_add_70 : decode cX6_add 70 = .ok (.iinc 2 1, 3) := by decide +kernel
theorem dX6_add_73 : decode cX6_add 73 = .ok (.goto (-31), 3) := by decide +kernel
theorem dX6_add_76 : decode cX6_add 76 = .ok (.aload_n 0, 1) := by decide +kernel
theorem dX6_add_77 : decode cX6_add 77 = .ok (.aload_n 0, 1) := by decide +kernel
theorem dX6_add_78 : decode cX6_add 78 = .ok (.getfield 22, 3) := by decide +kernel
theorem dX6_add_81 : decode cX6_add 81 = .ok (.invokevirtual 36, 3) := by decide +kernel
theorem dX6_add_84 : decode cX6_add 84 = .ok (.istore_n 2, 1) := by decide +kernel
theorem dX6_add_85 : decode cX6_add 85 = .ok (.iload_n 2, 1) := by decide +kernel
theorem dX6_add_86 : decode cX6_add 86 = .ok (.aload_n 0, 1) := by decide +kernel
theorem dX6_add_87 : decode cX6_add 87 = .ok (.getfield 7, 3) := by decide +kernel
theorem dX6_add_90 : decode cX6_add 90 = .ok (.if_icmp .ge 14, 3) := by decide +kernel
theorem dX6_add_93 : decode cX6_add 93 = .ok (.aload_n 0, 1) := by decide +kernel
theorem dX6_add_94 : decode cX6_add 94 = .ok (.getfield 29, 3) := by decide +kernel
theorem dX6_add_97 : decode cX6_add 97 = .ok (.aload_n 0, 1) := by decide +kernel
theorem dX6_add_98 : decode cX6_add 98 = .ok (.getfield 7, 3) := by decide +kernel
theorem dX6_add_101 : decode cX6_add 101 = .ok (.if_icmp .lt 4, 3) := by decide +kernel
theorem dX6_add_104 : decode cX6_add 104 = .ok (.return_, 1) := by decide +kernel
theorem dX6_add_105 : decode cX6_add 105 = .ok (.aload_n 0, 1) := by decide +kernel
theorem dX6_add_106 : decode cX6_add 106 = .ok (.iload_n 2, 1) := by decide +kernel
theorem dX6_add_107 : decode cX6_add 107 = .ok (.invokevirtual 40, 3) := by decide +kernel
theorem dX6_add_110 : decode cX6_add 110 = .ok (.istore_n 3, 1) := by decide +kernel
theorem dX6_add_111 : decode cX6_add 111 = .ok (.iconst 0, 1) := by decide +kernel
theorem dX6_add_112 : decode cX6_add 112 = .ok (.istore 4, 2) := by decide +kernel
theorem dX6_add_114 : decode cX6_add 114 = .ok (.iload 4, 2) := by decide +kernel
theorem dX6_add_116 : decode cX6_add 116 = .ok (.aload_n 0, 1) := by decide +kernel
theorem dX6_add_117 : decode cX6_add 117 = .ok (.getfield 29, 3) := by decide +kernel
theorem dX6_add_120 : decode cX6_add 120 = .ok (.if_icmp .ge 33, 3) := by decide +kernel
theorem dX6_add_123 : decode cX6_add 123 = .ok (.iload 4, 2) := by decide +kernel
theorem dX6_add_125 : decode cX6_add 125 = .ok (.iload_n 3, 1) := by decide +kernel
theorem dX6_add_126 : decode cX6_add 126 = .ok (.if_icmp .eq 21, 3) := by decide +kernel
theorem dX6_add_129 : decode cX6_add 129 = .ok (.aload_n 0, 1) := by decide +kernel
theorem dX6_add_130 : decode cX6_add 130 = .ok (.aload_n 0, 1) := by decide +kernel
theorem dX6_add_131 : decode cX6_add 131 = .ok (.getfield 15, 3) := by decide +kernel
theorem dX6_add_134 : decode cX6_add 134 = .ok (.iload 4, 2) := by decide +kernel
theorem dX6_add_136 : decode cX6_add 136 = .ok (.aaload, 1) := by decide +kernel
theorem dX6_add_137 : decode cX6_add 137 = .ok (.aload_n 0, 1) := by decide +kernel
theorem dX6_add_138 : decode cX6_add 138 = .ok (.getfield 15, 3) := by decide +kernel
theorem dX6_add_141 : decode cX6_add 141 = .ok (.iload_n 3, 1) := by decide +kernel
theorem dX6_add_142 : decode cX6_add 142 = .ok (.aaload, 1) := by decide +kernel
theorem dX6_add_143 : decode cX6_add 143 = .ok (.iload_n 2, 1) := by decide +kernel
theorem dX6_add_144 : decode cX6_add 144 = .ok (.invokevirtual 32, 3) := by decide +kernel
theorem dX6_add_147 : decode cX6_add 147 = .ok (.iinc 4 1, 3) := by decide +kernel
theorem dX6_add_150 : decode cX6_add 150 = .ok (.goto (-36), 3) := by decide +kernel
theorem dX6_add_153 : decode cX6_add 153 = .ok (.return_, 1) := by decide +kernel
theorem dX6_leadOf_0 : decode cX6_leadOf 0 = .ok (.iconst 0, 1) := by decide +kernel
theorem dX6_leadOf_1 : decode cX6_leadOf 1 = .ok (.istore_n 2, 1) := by decide +kernel
theorem dX6_leadOf_2 : decode cX6_leadOf 2 = .ok (.iload_n 2, 1) := by decide +kernel
theorem dX6_leadOf_3 : decode cX6_leadOf 3 = .ok (.aload_n 0, 1) := by decide +kernel
theorem dX6_leadOf_4 : decode cX6_leadOf 4 = .ok (.getfield 7, 3) := by decide +kernel
theorem dX6_leadOf_7 : decode cX6_leadOf 7 = .ok (.if_icmp .ge 17, 3) := by decide +kernel
theorem dX6_leadOf_10 : decode cX6_leadOf 10 = .ok (.aload_n 1, 1) := by decide +kernel
theorem dX6_leadOf_11 : decode cX6_leadOf 11 = .ok (.iload_n 2, 1) := by decide +kernel
theorem dX6_leadOf_12 : decode cX6_leadOf 12 = .ok (.laload, 1) := by decide +kernel
theorem dX6_leadOf_13 : decode cX6_leadOf 13 = .ok (.lconst 0, 1) := by decide +kernel
theorem dX6_leadOf_14 : decode cX6_leadOf 14 = .ok (.lcmp, 1) := by decide +kernel
theorem dX6_leadOf_15 : decode cX6_leadOf 15 = .ok (.ifCond .ne 9, 3) := by decide +kernel
theorem dX6_leadOf_18 : decode cX6_leadOf 18 = .ok (.iinc 2 1, 3) := by decide +kernel
theorem dX6_leadOf_21 : decode cX6_leadOf 21 = .ok (.goto (-19), 3) := by decide +kernel
theorem dX6_leadOf_24 : decode cX6_leadOf 24 = .ok (.iload_n 2, 1) := by decide +kernel
theorem dX6_leadOf_25 : decode cX6_leadOf 25 = .ok (.ireturn, 1) := by decide +kernel
theorem dX6_clearPlace_0 : decode cX6_clearPlace 0 = .ok (.aload_n 1, 1) := by decide +kernel
theorem dX6_clearPlace_1 : decode cX6_clearPlace 1 = .ok (.iload_n 3, 1) := by decide +kernel
theorem dX6_clearPlace_2 : decode cX6_clearPlace 2 = .ok (.laload, 1) := by decide +kernel
theorem dX6_clearPlace_3 : decode cX6_clearPlace 3 = .ok (.lstore 4, 2) := by decide +kernel
theorem dX6_clearPlace_5 : decode cX6_clearPlace 5 = .ok (.aload_n 2, 1) := by decide +kernel
theorem dX6_clearPlace_6 : decode cX6_clearPlace 6 = .ok (.iload_n 3, 1) := by decide +kernel
theorem dX6_clearPlace_7 : decode cX6_clearPlace 7 = .ok (.laload, 1) := by decide +kernel
theorem dX6_clearPlace_8 : decode cX6_clearPlace 8 = .ok (.lstore 6, 2) := by decide +kernel
theorem dX6_clearPlace_10 : decode cX6_clearPlace 10 = .ok (.lload 4, 2) := by decide +kernel
theorem dX6_clearPlace_12 : decode cX6_clearPlace 12 = .ok (.lconst 0, 1) := by decide +kernel
theorem dX6_clearPlace_13 : decode cX6_clearPlace 13 = .ok (.lcmp, 1) := by decide +kernel
theorem dX6_clearPlace_14 : decode cX6_clearPlace 14 = .ok (.ifCond .ne 4, 3) := by decide +kernel
theorem dX6_clearPlace_17 : decode cX6_clearPlace 17 = .ok (.return_, 1) := by decide +kernel
theorem dX6_clearPlace_18 : decode cX6_clearPlace 18 = .ok (.iconst 0, 1) := by decide +kernel
theorem dX6_clearPlace_19 : decode cX6_clearPlace 19 = .ok (.istore 8, 2) := by decide +kernel
theorem dX6_clearPlace_21 : decode cX6_clearPlace 21 = .ok (.iload 8, 2) := by decide +kernel
theorem dX6_clearPlace_23 : decode cX6_clearPlace 23 = .ok (.aload_n 0, 1) := by decide +kernel
theorem dX6_clearPlace_24 : decode cX6_clearPlace 24 = .ok (.getfield 7, 3) := by decide +kernel
theorem dX6_clearPlace_27 : decode cX6_clearPlace 27 = .ok (.if_icmp .ge 28, 3) := by decide +kernel
theorem dX6_clearPlace_30 : decode cX6_clearPlace 30 = .ok (.aload_n 1, 1) := by decide +kernel
theorem dX6_clearPlace_31 : decode cX6_clearPlace 31 = .ok (.iload 8, 2) := by decide +kernel
theorem dX6_clearPlace_33 : decode cX6_clearPlace 33 = .ok (.aload_n 1, 1) := by decide +kernel
theorem dX6_clearPlace_34 : decode cX6_clearPlace 34 = .ok (.iload 8, 2) := by decide +kernel
theorem dX6_clearPlace_36 : decode cX6_clearPlace 36 = .ok (.laload, 1) := by decide +kernel
theorem dX6_clearPlace_37 : decode cX6_clearPlace 37 = .ok (.lload 6, 2) := by decide +kernel
theorem dX6_clearPlace_39 : decode cX6_clearPlace 39 = .ok (.lmul, 1) := by decide +kernel
theorem dX6_clearPlace_40 : decode cX6_clearPlace 40 = .ok (.aload_n 2, 1) := by decide +kernel
theorem dX6_clearPlace_41 : decode cX6_clearPlace 41 = .ok (.iload 8, 2) := by decide +kernel
theorem dX6_clearPlace_43 : decode cX6_clearPlace 43 = .ok (.laload, 1) := by decide +kernel
theorem dX6_clearPlace_44 : decode cX6_clearPlace 44 = .ok (.lload 4, 2) := by decide +kernel
theorem dX6_clearPlace_46 : decode cX6_clearPlace 46 = .ok (.lmul, 1) := by decide +kernel
theorem dX6_clearPlace_47 : decode cX6_clearPlace 47 = .ok (.lsub, 1) := by decide +kernel
theorem dX6_clearPlace_48 : decode cX6_clearPlace 48 = .ok (.lastore, 1) := by decide +kernel
theorem dX6_clearPlace_49 : decode cX6_clearPlace 49 = .ok (.iinc 8 1, 3) := by decide +kernel
theorem dX6_clearPlace_52 : decode cX6_clearPlace 52 = .ok (.goto (-31), 3) := by decide +kernel
theorem dX6_clearPlace_55 : decode cX6_clearPlace 55 = .ok (.aload_n 0, 1) := by decide +kernel
theorem dX6_clearPlace_56 : decode cX6_clearPlace 56 = .ok (.aload_n 1, 1) := by decide +kernel
theorem dX6_clearPlace_57 : decode cX6_clearPlace 57 = .ok (.invokevirtual 44, 3) := by decide +kernel
theorem dX6_clearPlace_60 : decode cX6_clearPlace 60 = .ok (.return_, 1) := by decide +kernel
theorem dX6_shorten_0 : decode cX6_shorten 0 = .ok (.lconst 0, 1) := by decide +kernel
theorem dX6_shorten_1 : decode cX6_shorten 1 = .ok (.lstore_n 2, 1) := by decide +kernel
theorem dX6_shorten_2 : decode cX6_shorten 2 = .ok (.iconst 0, 1) := by decide +kernel
theorem dX6_shorten_3 : decode cX6_shorten 3 = .ok (.istore 4, 2) := by decide +kernel
theorem dX6_shorten_5 : decode cX6_shorten 5 = .ok (.iload 4, 2) := by decide +kernel
theorem dX6_shorten_7 : decode cX6_shorten 7 = .ok (.aload_n 0, 1) := by decide +kernel
theorem dX6_shorten_8 : decode cX6_shorten 8 = .ok (.getfield 7, 3) := by decide +kernel
theorem dX6_shorten_11 : decode cX6_shorten 11 = .ok (.if_icmp .ge 18, 3) := by decide +kernel
theorem dX6_shorten_14 : decode cX6_shorten 14 = .ok (.lload_n 2, 1) := by decide +kernel
theorem dX6_shorten_15 : decode cX6_shorten 15 = .ok (.aload_n 1, 1) := by decide +kernel
theorem dX6_shorten_16 : decode cX6_shorten 16 = .ok (.iload 4, 2) := by decide +kernel
theorem dX6_shorten_18 : decode cX6_shorten 18 = .ok (.laload, 1) := by decide +kernel
theorem dX6_shorten_19 : decode cX6_shorten 19 = .ok (.invokestatic 48, 3) := by decide +kernel
theorem dX6_shorten_22 : decode cX6_shorten 22 = .ok (.lstore_n 2, 1) := by decide +kernel
theorem dX6_shorten_23 : decode cX6_shorten 23 = .ok (.iinc 4 1, 3) := by decide +kernel
theorem dX6_shorten_26 : decode cX6_shorten 26 = .ok (.goto (-21), 3) := by decide +kernel
theorem dX6_shorten_29 : decode cX6_shorten 29 = .ok (.lload_n 2, 1) := by decide +kernel
theorem dX6_shorten_30 : decode cX6_shorten 30 = .ok (.lconst 1, 1) := by decide +kernel
theorem dX6_shorten_31 : decode cX6_shorten 31 = .ok (.lcmp, 1) := by decide +kernel
theorem dX6_shorten_32 : decode cX6_shorten 32 = .ok (.ifCond .le 29, 3) := by decide +kernel
theorem dX6_shorten_35 : decode cX6_shorten 35 = .ok (.iconst 0, 1) := by decide +kernel
theorem dX6_shorten_36 : decode cX6_shorten 36 = .ok (.istore 4, 2) := by decide +kernel
theorem dX6_shorten_38 : decode cX6_shorten 38 = .ok (.iload 4, 2) := by decide +kernel
theorem dX6_shorten_40 : decode cX6_shorten 40 = .ok (.aload_n 0, 1) := by decide +kernel
theorem dX6_shorten_41 : decode cX6_shorten 41 = .ok (.getfield 7, 3) := by decide +kernel
theorem dX6_shorten_44 : decode cX6_shorten 44 = .ok (.if_icmp .ge 17, 3) := by decide +kernel
theorem dX6_shorten_47 : decode cX6_shorten 47 = .ok (.aload_n 1, 1) := by decide +kernel
theorem dX6_shorten_48 : decode cX6_shorten 48 = .ok (.iload 4, 2) := by decide +kernel
theorem dX6_shorten_50 : decode cX6_shorten 50 = .ok (.dup2, 1) := by decide +kernel
theorem dX6_shorten_51 : decode cX6_shorten 51 = .ok (.laload, 1) := by decide +kernel
theorem dX6_shorten_52 : decode cX6_shorten 52 = .ok (.lload_n 2, 1) := by decide +kernel
theorem dX6_shorten_53 : decode cX6_shorten 53 = .ok (.ldiv, 1) := by decide +kernel
theorem dX6_shorten_54 : decode cX6_shorten 54 = .ok (.lastore, 1) := by decide +kernel
theorem dX6_shorten_55 : decode cX6_shorten 55 = .ok (.iinc 4 1, 3) := by decide +kernel
theorem dX6_shorten_58 : decode cX6_shorten 58 = .ok (.goto (-20), 3) := by decide +kernel
theorem dX6_shorten_61 : decode cX6_shorten 61 = .ok (.return_, 1) := by decide +kernel
theorem dX6_insertFresh_0 : decode cX6_insertFresh 0 = .ok (.aload_n 0, 1) := by decide +kernel
theorem dX6_insertFresh_1 : decode cX6_insertFresh 1 = .ok (.getfield 29, 3) := by decide +kernel
theorem dX6_insertFresh_4 : decode cX6_insertFresh 4 = .ok (.istore_n 2, 1) := by decide +kernel
theorem dX6_insertFresh_5 : decode cX6_insertFresh 5 = .ok (.iload_n 2, 1) := by decide +kernel
theorem dX6_insertFresh_6 : decode cX6_insertFresh 6 = .ok (.ifCond .le 69, 3) := by decide +kernel
theorem dX6_insertFresh_9 : decode cX6_insertFresh 9 = .ok (.aload_n 0, 1) := by decide +kernel
theorem dX6_insertFresh_10 : decode cX6_insertFresh 10 = .ok (.getfield 18, 3) := by decide +kernel
theorem dX6_insertFresh_13 : decode cX6_insertFresh 13 = .ok (.iload_n 2, 1) := by decide +kernel
theorem dX6_insertFresh_14 : decode cX6_insertFresh 14 = .ok (.iconst 1, 1) := by decide +kernel
theorem dX6_insertFresh_15 : decode cX6_insertFresh 15 = .ok (.isub, 1) := by decide +kernel
theorem dX6_insertFresh_16 : decode cX6_insertFresh 16 = .ok (.iaload, 1) := by decide +kernel
theorem dX6_insertFresh_17 : decode cX6_insertFresh 17 = .ok (.iload_n 1, 1) := by decide +kernel
theorem dX6_insertFresh_18 : decode cX6_insertFresh 18 = .ok (.if_icmp .le 57, 3) := by decide +kernel
theorem dX6_insertFresh_21 : decode cX6_insertFresh 21 = .ok (.aload_n 0, 1) := by decide +kernel
theorem dX6_insertFresh_22 : decode cX6_insertFresh 22 = .ok (.getfield 18, 3) := by decide +kernel
theorem dX6_insertFresh_25 : decode cX6_insertFresh 25 = .ok (.iload_n 2, 1) := by decide +kernel
theorem dX6_insertFresh_26 : decode cX6_insertFresh 26 = .ok (.aload_n 0, 1) := by decide +kernel
theorem dX6_insertFresh_27 : decode cX6_insertFresh 27 = .ok (.getfield 18, 3) := by decide +kernel
theorem dX6_insertFresh_30 : decode cX6_insertFresh 30 = .ok (.iload_n 2, 1) := by decide +kernel
theorem dX6_insertFresh_31 : decode cX6_insertFresh 31 = .ok (.iconst 1, 1) := by decide +kernel
theorem dX6_insertFresh_32 : decode cX6_insertFresh 32 = .ok (.isub, 1) := by decide +kernel
theorem dX6_insertFresh_33 : decode cX6_insertFresh 33 = .ok (.iaload, 1) := by decide +kernel
theorem dX6_insertFresh_34 : decode cX6_insertFresh 34 = .ok (.iastore, 1) := by decide +kernel
theorem dX6_insertFresh_35 : decode cX6_insertFresh 35 = .ok (.iconst 0, 1) := by decide +kernel
theorem dX6_insertFresh_36 : decode cX6_insertFresh 36 = .ok (.istore_n 3, 1) := by decide +kernel
theorem dX6_insertFresh_37 : decode cX6_insertFresh 37 = .ok (.iload_n 3, 1) := by decide +kernel
theorem dX6_insertFresh_38 : decode cX6_insertFresh 38 = .ok (.aload_n 0, 1) := by decide +kernel
theorem dX6_insertFresh_39 : decode cX6_insertFresh 39 = .ok (.getfield 7, 3) := by decide +kernel
theorem dX6_insertFresh_42 : decode cX6_insertFresh 42 = .ok (.if_icmp .ge 27, 3) := by decide +kernel
theorem dX6_insertFresh_45 : decode cX6_insertFresh 45 = .ok (.aload_n 0, 1) := by decide +kernel
theorem dX6_insertFresh_46 : decode cX6_insertFresh 46 = .ok (.getfield 15, 3) := by decide +kernel
theorem dX6_insertFresh_49 : decode cX6_insertFresh 49 = .ok (.iload_n 2, 1) := by decide +kernel
theorem dX6_insertFresh_50 : decode cX6_insertFresh 50 = .ok (.aaload, 1) := by decide +kernel
theorem dX6_insertFresh_51 : decode cX6_insertFresh 51 = .ok (.iload_n 3, 1) := by decide +kernel
theorem dX6_insertFresh_52 : decode cX6_insertFresh 52 = .ok (.aload_n 0, 1) := by decide +kernel
theorem dX6_insertFresh_53 : decode cX6_insertFresh 53 = .ok (.getfield 15, 3) := by decide +kernel
theorem dX6_insertFresh_56 : decode cX6_insertFresh 56 = .ok (.iload_n 2, 1) := by decide +kernel
theorem dX6_insertFresh_57 : decode cX6_insertFresh 57 = .ok (.iconst 1, 1) := by decide +kernel
theorem dX6_insertFresh_58 : decode cX6_insertFresh 58 = .ok (.isub, 1) := by decide +kernel
theorem dX6_insertFresh_59 : decode cX6_insertFresh 59 = .ok (.aaload, 1) := by decide +kernel
theorem dX6_insertFresh_60 : decode cX6_insertFresh 60 = .ok (.iload_n 3, 1) := by decide +kernel
theorem dX6_insertFresh_61 : decode cX6_insertFresh 61 = .ok (.laload, 1) := by decide +kernel
theorem dX6_insertFresh_62 : decode cX6_insertFresh 62 = .ok (.lastore, 1) := by decide +kernel
theorem dX6_insertFresh_63 : decode cX6_insertFresh 63 = .ok (.iinc 3 1, 3) := by decide +kernel
theorem dX6_insertFresh_66 : decode cX6_insertFresh 66 = .ok (.goto (-29), 3) := by decide +kernel
theorem dX6_insertFresh_69 : decode cX6_insertFresh 69 = .ok (.iinc 2 (-1), 3) := by decide +kernel
theorem dX6_insertFresh_72 : decode cX6_insertFresh 72 = .ok (.goto (-67), 3) := by decide +kernel
theorem dX6_insertFresh_75 : decode cX6_insertFresh 75 = .ok (.aload_n 0, 1) := by decide +kernel
theorem dX6_insertFresh_76 : decode cX6_insertFresh 76 = .ok (.getfield 22, 3) := by decide +kernel
theorem dX6_insertFresh_79 : decode cX6_insertFresh 79 = .ok (.iload_n 1, 1) := by decide +kernel
theorem dX6_insertFresh_80 : decode cX6_insertFresh 80 = .ok (.laload, 1) := by decide +kernel
theorem dX6_insertFresh_81 : decode cX6_insertFresh 81 = .ok (.lconst 0, 1) := by decide +kernel
theorem dX6_insertFresh_82 : decode cX6_insertFresh 82 = .ok (.lcmp, 1) := by decide +kernel
theorem dX6_insertFresh_83 : decode cX6_insertFresh 83 = .ok (.ifCond .ge 7, 3) := by decide +kernel
theorem dX6_insertFresh_86 : decode cX6_insertFresh 86 = .ok (.iconst 1, 1) := by decide +kernel
theorem dX6_insertFresh_87 : decode cX6_insertFresh 87 = .ok (.goto 4, 3) := by decide +kernel
theorem dX6_insertFresh_90 : decode cX6_insertFresh 90 = .ok (.iconst 0, 1) := by decide +kernel
theorem dX6_insertFresh_91 : decode cX6_insertFresh 91 = .ok (.istore_n 3, 1) := by decide +kernel
theorem dX6_insertFresh_92 : decode cX6_insertFresh 92 = .ok (.iconst 0, 1) := by decide +kernel
theorem dX6_insertFresh_93 : decode cX6_insertFresh 93 = .ok (.istore 4, 2) := by decide +kernel
theorem dX6_insertFresh_95 : decode cX6_insertFresh 95 = .ok (.iload 4, 2) := by decide +kernel
theorem dX6_insertFresh_97 : decode cX6_insertFresh 97 = .ok (.aload_n 0, 1) := by decide +kernel
theorem dX6_insertFresh_98 : decode cX6_insertFresh 98 = .ok (.getfield 7, 3) := by decide +kernel
theorem dX6_insertFresh_101 : decode cX6_insertFresh 101 = .ok (.if_icmp .ge 40, 3) := by decide +kernel
theorem dX6_insertFresh_104 : decode cX6_insertFresh 104 = .ok (.aload_n 0, 1) := by decide +kernel
theorem dX6_insertFresh_105 : decode cX6_insertFresh 105 = .ok (.getfield 15, 3) := by decide +kernel
theorem dX6_insertFresh_108 : decode cX6_insertFresh 108 = .ok (.iload_n 2, 1) := by decide +kernel
theorem dX6_insertFresh_109 : decode cX6_insertFresh 109 = .ok (.aaload, 1) := by decide +kernel
theorem dX6_insertFresh_110 : decode cX6_insertFresh 110 = .ok (.iload 4, 2) := by decide +kernel
theorem dX6_insertFresh_112 : decode cX6_insertFresh 112 = .ok (.iload_n 3, 1) := by decide +kernel
theorem dX6_insertFresh_113 : decode cX6_insertFresh 113 = .ok (.ifCond .eq 14, 3) := by decide +kernel
theorem dX6_insertFresh_116 : decode cX6_insertFresh 116 = .ok (.aload_n 0, 1) := by decide +kernel
theorem dX6_insertFresh_117 : decode cX6_insertFresh 117 = .ok (.getfield 22, 3) := by decide +kernel
theorem dX6_insertFresh_120 : decode cX6_insertFresh 120 = .ok (.iload 4, 2) := by decide +kernel
theorem dX6_insertFresh_122 : decode cX6_insertFresh 122 = .ok (.laload, 1) := by decide +kernel
theorem dX6_insertFresh_123 : decode cX6_insertFresh 123 = .ok (.lneg, 1) := by decide +kernel
theorem dX6_insertFresh_124 : decode cX6_insertFresh 124 = .ok (.goto 10, 3) := by decide +kernel
theorem dX6_insertFresh_127 : decode cX6_insertFresh 127 = .ok (.aload_n 0, 1) := by decide +kernel
theorem dX6_insertFresh_128 : decode cX6_insertFresh 128 = .ok (.getfield 22, 3) := by decide +kernel
theorem dX6_insertFresh_131 : decode cX6_insertFresh 131 = .ok (.iload 4, 2) := by decide +kernel
theorem dX6_insertFresh_133 : decode cX6_insertFresh 133 = .ok (.laload, 1) := by decide +kernel
theorem dX6_insertFresh_134 : decode cX6_insertFresh 134 = .ok (.lastore, 1) := by decide +kernel
theorem dX6_insertFresh_135 : decode cX6_insertFresh 135 = .ok (.iinc 4 1, 3) := by decide +kernel
theorem dX6_insertFresh_138 : decode cX6_insertFresh 138 = .ok (.goto (-43), 3) := by decide +kernel
theorem dX6_insertFresh_141 : decode cX6_insertFresh 141 = .ok (.aload_n 0, 1) := by decide +kernel
theorem dX6_insertFresh_142 : decode cX6_insertFresh 142 = .ok (.getfield 18, 3) := by decide +kernel
theorem dX6_insertFresh_145 : decode cX6_insertFresh 145 = .ok (.iload_n 2, 1) := by decide +kernel
theorem dX6_insertFresh_146 : decode cX6_insertFresh 146 = .ok (.iload_n 1, 1) := by decide +kernel
theorem dX6_insertFresh_147 : decode cX6_insertFresh 147 = .ok (.iastore, 1) := by decide +kernel
theorem dX6_insertFresh_148 : decode cX6_insertFresh 148 = .ok (.aload_n 0, 1) := by decide +kernel
theorem dX6_insertFresh_149 : decode cX6_insertFresh 149 = .ok (.dup, 1) := by decide +kernel
theorem dX6_insertFresh_150 : decode cX6_insertFresh 150 = .ok (.getfield 29, 3) := by decide +kernel
theorem dX6_insertFresh_153 : decode cX6_insertFresh 153 = .ok (.iconst 1, 1) := by decide +kernel
theorem dX6_insertFresh_154 : decode cX6_insertFresh 154 = .ok (.iadd, 1) := by decide +kernel
theorem dX6_insertFresh_155 : decode cX6_insertFresh 155 = .ok (.putfield 29, 3) := by decide +kernel
theorem dX6_insertFresh_158 : decode cX6_insertFresh 158 = .ok (.iload_n 2, 1) := by decide +kernel
theorem dX6_insertFresh_159 : decode cX6_insertFresh 159 = .ok (.ireturn, 1) := by decide +kernel
theorem dX6_freeCount_0 : decode cX6_freeCount 0 = .ok (.aload_n 0, 1) := by decide +kernel
theorem dX6_freeCount_1 : decode cX6_freeCount 1 = .ok (.getfield 7, 3) := by decide +kernel
theorem dX6_freeCount_4 : decode cX6_freeCount 4 = .ok (.aload_n 0, 1) := by decide +kernel
theorem dX6_freeCount_5 : decode cX6_freeCount 5 = .ok (.getfield 29, 3) := by decide +kernel
theorem dX6_freeCount_8 : decode cX6_freeCount 8 = .ok (.isub, 1) := by decide +kernel
theorem dX6_freeCount_9 : decode cX6_freeCount 9 = .ok (.ireturn, 1) := by decide +kernel
theorem dX6_freePlace_0 : decode cX6_freePlace 0 = .ok (.iconst 0, 1) := by decide +kernel
theorem dX6_freePlace_1 : decode cX6_freePlace 1 = .ok (.istore_n 2, 1) := by decide +kernel
theorem dX6_freePlace_2 : decode cX6_freePlace 2 = .ok (.iconst 0, 1) := by decide +kernel
theorem dX6_freePlace_3 : decode cX6_freePlace 3 = .ok (.istore_n 3, 1) := by decide +kernel
theorem dX6_freePlace_4 : decode cX6_freePlace 4 = .ok (.iconst 0, 1) := by decide +kernel
theorem dX6_freePlace_5 : decode cX6_freePlace 5 = .ok (.istore 4, 2) := by decide +kernel
theorem dX6_freePlace_7 : decode cX6_freePlace 7 = .ok (.iload 4, 2) := by decide +kernel
theorem dX6_freePlace_9 : decode cX6_freePlace 9 = .ok (.aload_n 0, 1) := by decide +kernel
theorem dX6_freePlace_10 : decode cX6_freePlace 10 = .ok (.getfield 7, 3) := by decide +kernel
theorem dX6_freePlace_13 : decode cX6_freePlace 13 = .ok (.if_icmp .ge 45, 3) := by decide +kernel
theorem dX6_freePlace_16 : decode cX6_freePlace 16 = .ok (.iload_n 2, 1) := by decide +kernel
theorem dX6_freePlace_17 : decode cX6_freePlace 17 = .ok (.aload_n 0, 1) := by decide +kernel
theorem dX6_freePlace_18 : decode cX6_freePlace 18 = .ok (.getfield 29, 3) := by decide +kernel
theorem dX6_freePlace_21 : decode cX6_freePlace 21 = .ok (.if_icmp .ge 20, 3) := by decide +kernel
theorem dX6_freePlace_24 : decode cX6_freePlace 24 = .ok (.aload_n 0, 1) := by decide +kernel
theorem dX6_freePlace_25 : decode cX6_freePlace 25 = .ok (.getfield 18, 3) := by decide +kernel
theorem dX6_freePlace_28 : decode cX6_freePlace 28 = .ok (.iload_n 2, 1) := by decide +kernel
theorem dX6_freePlace_29 : decode cX6_freePlace 29 = .ok (.iaload, 1) := by decide +kernel
theorem dX6_freePlace_30 : decode cX6_freePlace 30 = .ok (.iload 4, 2) := by decide +kernel
theorem dX6_freePlace_32 : decode cX6_freePlace 32 = .ok (.if_icmp .ne 9, 3) := by decide +kernel
theorem dX6_freePlace_35 : decode cX6_freePlace 35 = .ok (.iinc 2 1, 3) := by decide +kernel
theorem dX6_freePlace_38 : decode cX6_freePlace 38 = .ok (.goto 14, 3) := by decide +kernel
theorem dX6_freePlace_41 : decode cX6_freePlace 41 = .ok (.iload_n 3, 1) := by decide +kernel
theorem dX6_freePlace_42 : decode cX6_freePlace 42 = .ok (.iload_n 1, 1) := by decide +kernel
theorem dX6_freePlace_43 : decode cX6_freePlace 43 = .ok (.if_icmp .ne 6, 3) := by decide +kernel
theorem dX6_freePlace_46 : decode cX6_freePlace 46 = .ok (.iload 4, 2) := by decide +kernel
theorem dX6_freePlace_48 : decode cX6_freePlace 48 = .ok (.ireturn, 1) := by decide +kernel
theorem dX6_freePlace_49 : decode cX6_freePlace 49 = .ok (.iinc 3 1, 3) := by decide +kernel
theorem dX6_freePlace_52 : decode cX6_freePlace 52 = .ok (.iinc 4 1, 3) := by decide +kernel
theorem dX6_freePlace_55 : decode cX6_freePlace 55 = .ok (.goto (-48), 3) := by decide +kernel
theorem dX6_freePlace_58 : decode cX6_freePlace 58 = .ok (.aload_n 0, 1) := by decide +kernel
theorem dX6_freePlace_59 : decode cX6_freePlace 59 = .ok (.getfield 7, 3) := by decide +kernel
theorem dX6_freePlace_62 : decode cX6_freePlace 62 = .ok (.iconst 1, 1) := by decide +kernel
theorem dX6_freePlace_63 : decode cX6_freePlace 63 = .ok (.isub, 1) := by decide +kernel
theorem dX6_freePlace_64 : decode cX6_freePlace 64 = .ok (.ireturn, 1) := by decide +kernel
theorem dX6_basisRow_0 : decode cX6_basisRow 0 = .ok (.aload_n 0, 1) := by decide +kernel
theorem dX6_basisRow_1 : decode cX6_basisRow 1 = .ok (.iload_n 1, 1) := by decide +kernel
theorem dX6_basisRow_2 : decode cX6_basisRow 2 = .ok (.invokevirtual 54, 3) := by decide +kernel
theorem dX6_basisRow_5 : decode cX6_basisRow 5 = .ok (.istore_n 2, 1) := by decide +kernel
theorem dX6_basisRow_6 : decode cX6_basisRow 6 = .ok (.lconst 1, 1) := by decide +kernel
theorem dX6_basisRow_7 : decode cX6_basisRow 7 = .ok (.lstore_n 3, 1) := by decide +kernel
theorem dX6_basisRow_8 : decode cX6_basisRow 8 = .ok (.iconst 0, 1) := by decide +kernel
theorem dX6_basisRow_9 : decode cX6_basisRow 9 = .ok (.istore 5, 2) := by decide +kernel
theorem dX6_basisRow_11 : decode cX6_basisRow 11 = .ok (.iload 5, 2) := by decide +kernel
theorem dX6_basisRow_13 : decode cX6_basisRow 13 = .ok (.aload_n 0, 1) := by decide +kernel
theorem dX6_basisRow_14 : decode cX6_basisRow 14 = .ok (.getfield 29, 3) := by decide +kernel
theorem dX6_basisRow_17 : decode cX6_basisRow 17 = .ok (.if_icmp .ge 21, 3) := by decide +kernel
theorem dX6_basisRow_20 : decode cX6_basisRow 20 = .ok (.lload_n 3, 1) := by decide +kernel
theorem dX6_basisRow_21 : decode cX6_basisRow 21 = .ok (.aload_n 0, 1) := by decide +kernel
theorem dX6_basisRow_22 : decode cX6_basisRow 22 = .ok (.iload 5, 2) := by decide +kernel
theorem dX6_basisRow_24 : decode cX6_basisRow 24 = .ok (.iload_n 2, 1) := by decide +kernel
theorem dX6_basisRow_25 : decode cX6_basisRow 25 = .ok (.invokevirtual 57, 3) := by decide +kernel
theorem dX6_basisRow_28 : decode cX6_basisRow 28 = .ok (.invokestatic 61, 3) := by decide +kernel
theorem dX6_basisRow_31 : decode cX6_basisRow 31 = .ok (.lstore_n 3, 1) := by decide +kernel
theorem dX6_basisRow_32 : decode cX6_basisRow 32 = .ok (.iinc 5 1, 3) := by decide +kernel
theorem dX6_basisRow_35 : decode cX6_basisRow 35 = .ok (.goto (-24), 3) := by decide +kernel
theorem dX6_basisRow_38 : decode cX6_basisRow 38 = .ok (.iconst 0, 1) := by decide +kernel
theorem dX6_basisRow_39 : decode cX6_basisRow 39 = .ok (.istore 5, 2) := by decide +kernel
theorem dX6_basisRow_41 : decode cX6_basisRow 41 = .ok (.iload 5, 2) := by decide +kernel
theorem dX6_basisRow_43 : decode cX6_basisRow 43 = .ok (.aload_n 0, 1) := by decide +kernel
theorem dX6_basisRow_44 : decode cX6_basisRow 44 = .ok (.getfield 7, 3) := by decide +kernel
theorem dX6_basisRow_47 : decode cX6_basisRow 47 = .ok (.if_icmp .ge 17, 3) := by decide +kernel
theorem dX6_basisRow_50 : decode cX6_basisRow 50 = .ok (.aload_n 0, 1) := by decide +kernel
theorem dX6_basisRow_51 : decode cX6_basisRow 51 = .ok (.getfield 26, 3) := by decide +kernel
theorem dX6_basisRow_54 : decode cX6_basisRow 54 = .ok (.iload 5, 2) := by decide +kernel
theorem dX6_basisRow_56 : decode cX6_basisRow 56 = .ok (.lconst 0, 1) := by decide +kernel
theorem dX6_basisRow_57 : decode cX6_basisRow 57 = .ok (.lastore, 1) := by decide +kernel
theorem dX6_basisRow_58 : decode cX6_basisRow 58 = .ok (.iinc 5 1, 3) := by decide +kernel
theorem dX6_basisRow_61 : decode cX6_basisRow 61 = .ok (.goto (-20), 3) := by decide +kernel
theorem dX6_basisRow_64 : decode cX6_basisRow 64 = .ok (.aload_n 0, 1) := by decide +kernel
theorem dX6_basisRow_65 : decode cX6_basisRow 65 = .ok (.getfield 26, 3) := by decide +kernel
theorem dX6_basisRow_68 : decode cX6_basisRow 68 = .ok (.iload_n 2, 1) := by decide +kernel
theorem dX6_basisRow_69 : decode cX6_basisRow 69 = .ok (.lload_n 3, 1) := by decide +kernel
theorem dX6_basisRow_70 : decode cX6_basisRow 70 = .ok (.lastore, 1) := by decide +kernel
theorem dX6_basisRow_71 : decode cX6_basisRow 71 = .ok (.iconst 0, 1) := by decide +kernel
theorem dX6_basisRow_72 : decode cX6_basisRow 72 = .ok (.istore 5, 2) := by decide +kernel
theorem dX6_basisRow_74 : decode cX6_basisRow 74 = .ok (.iload 5, 2) := by decide +kernel
theorem dX6_basisRow_76 : decode cX6_basisRow 76 = .ok (.aload_n 0, 1) := by decide +kernel
theorem dX6_basisRow_77 : decode cX6_basisRow 77 = .ok (.getfield 29, 3) := by decide +kernel
theorem dX6_basisRow_80 : decode cX6_basisRow 80 = .ok (.if_icmp .ge 60, 3) := by decide +kernel
theorem dX6_basisRow_83 : decode cX6_basisRow 83 = .ok (.aload_n 0, 1) := by decide +kernel
theorem dX6_basisRow_84 : decode cX6_basisRow 84 = .ok (.getfield 15, 3) := by decide +kernel
theorem dX6_basisRow_87 : decode cX6_basisRow 87 = .ok (.iload 5, 2) := by decide +kernel
theorem dX6_basisRow_89 : decode cX6_basisRow 89 = .ok (.aaload, 1) := by decide +kernel
theorem dX6_basisRow_90 : decode cX6_basisRow 90 = .ok (.aload_n 0, 1) := by decide +kernel
theorem dX6_basisRow_91 : decode cX6_basisRow 91 = .ok (.getfield 18, 3) := by decide +kernel
theorem dX6_basisRow_94 : decode cX6_basisRow 94 = .ok (.iload 5, 2) := by decide +kernel
theorem dX6_basisRow_96 : decode cX6_basisRow 96 = .ok (.iaload, 1) := by decide +kernel
theorem dX6_basisRow_97 : decode cX6_basisRow 97 = .ok (.laload, 1) := by decide +kernel
theorem dX6_basisRow_98 : decode cX6_basisRow 98 = .ok (.lstore 6, 2) := by decide +kernel
theorem dX6_basisRow_100 : decode cX6_basisRow 100 = .ok (.lload 6, 2) := by decide +kernel
theorem dX6_basisRow_102 : decode cX6_basisRow 102 = .ok (.lconst 0, 1) := by decide +kernel
theorem dX6_basisRow_103 : decode cX6_basisRow 103 = .ok (.lcmp, 1) := by decide +kernel
theorem dX6_basisRow_104 : decode cX6_basisRow 104 = .ok (.ifCond .eq 30, 3) := by decide +kernel
theorem dX6_basisRow_107 : decode cX6_basisRow 107 = .ok (.aload_n 0, 1) := by decide +kernel
theorem dX6_basisRow_108 : decode cX6_basisRow 108 = .ok (.getfield 26, 3) := by decide +kernel
theorem dX6_basisRow_111 : decode cX6_basisRow 111 = .ok (.aload_n 0, 1) := by decide +kernel
theorem dX6_basisRow_112 : decode cX6_basisRow 112 = .ok (.getfield 18, 3) := by decide +kernel
theorem dX6_basisRow_115 : decode cX6_basisRow 115 = .ok (.iload 5, 2) := by decide +kernel
theorem dX6_basisRow_117 : decode cX6_basisRow 117 = .ok (.iaload, 1) := by decide +kernel
theorem dX6_basisRow_118 : decode cX6_basisRow 118 = .ok (.aload_n 0, 1) := by decide +kernel
theorem dX6_basisRow_119 : decode cX6_basisRow 119 = .ok (.getfield 15, 3) := by decide +kernel
theorem dX6_basisRow_122 : decode cX6_basisRow 122 = .ok (.iload 5, 2) := by decide +kernel
theorem dX6_basisRow_124 : decode cX6_basisRow 124 = .ok (.aaload, 1) := by decide +kernel
theorem dX6_basisRow_125 : decode cX6_basisRow 125 = .ok (.iload_n 2, 1) := by decide +kernel
theorem dX6_basisRow_126 : decode cX6_basisRow 126 = .ok (.laload, 1) := by decide +kernel
theorem dX6_basisRow_127 : decode cX6_basisRow 127 = .ok (.lload_n 3, 1) := by decide +kernel
theorem dX6_basisRow_128 : decode cX6_basisRow 128 = .ok (.lmul, 1) := by decide +kernel
theorem dX6_basisRow_129 : decode cX6_basisRow 129 = .ok (.lload 6, 2) := by decide +kernel
theorem dX6_basisRow_131 : decode cX6_basisRow 131 = .ok (.ldiv, 1) := by decide +kernel
theorem dX6_basisRow_132 : decode cX6_basisRow 132 = .ok (.lneg, 1) := by decide +kernel
theorem dX6_basisRow_133 : decode cX6_basisRow 133 = .ok (.lastore, 1) := by decide +kernel
theorem dX6_basisRow_134 : decode cX6_basisRow 134 = .ok (.iinc 5 1, 3) := by decide +kernel
theorem dX6_basisRow_137 : decode cX6_basisRow 137 = .ok (.goto (-63), 3) := by decide +kernel
theorem dX6_basisRow_140 : decode cX6_basisRow 140 = .ok (.aload_n 0, 1) := by decide +kernel
theorem dX6_basisRow_141 : decode cX6_basisRow 141 = .ok (.getfield 26, 3) := by decide +kernel
theorem dX6_basisRow_144 : decode cX6_basisRow 144 = .ok (.areturn, 1) := by decide +kernel
theorem dX6_shortLead_0 : decode cX6_shortLead 0 = .ok (.aload_n 0, 1) := by decide +kernel
theorem dX6_shortLead_1 : decode cX6_shortLead 1 = .ok (.getfield 15, 3) := by decide +kernel
theorem dX6_shortLead_4 : decode cX6_shortLead 4 = .ok (.iload_n 1, 1) := by decide +kernel
theorem dX6_shortLead_5 : decode cX6_shortLead 5 = .ok (.aaload, 1) := by decide +kernel
theorem dX6_shortLead_6 : decode cX6_shortLead 6 = .ok (.aload_n 0, 1) := by decide +kernel
theorem dX6_shortLead_7 : decode cX6_shortLead 7 = .ok (.getfield 18, 3) := by decide +kernel
theorem dX6_shortLead_10 : decode cX6_shortLead 10 = .ok (.iload_n 1, 1) := by decide +kernel
theorem dX6_shortLead_11 : decode cX6_shortLead 11 = .ok (.iaload, 1) := by decide +kernel
theorem dX6_shortLead_12 : decode cX6_shortLead 12 = .ok (.laload, 1) := by decide +kernel
theorem dX6_shortLead_13 : decode cX6_shortLead 13 = .ok (.lstore_n 3, 1) := by decide +kernel
theorem dX6_shortLead_14 : decode cX6_shortLead 14 = .ok (.lload_n 3, 1) := by decide +kernel
theorem dX6_shortLead_15 : decode cX6_shortLead 15 = .ok (.aload_n 0, 1) := by decide +kernel
theorem dX6_shortLead_16 : decode cX6_shortLead 16 = .ok (.getfield 15, 3) := by decide +kernel
theorem dX6_shortLead_19 : decode cX6_shortLead 19 = .ok (.iload_n 1, 1) := by decide +kernel
theorem dX6_shortLead_20 : decode cX6_shortLead 20 = .ok (.aaload, 1) := by decide +kernel
theorem dX6_shortLead_21 : decode cX6_shortLead 21 = .ok (.iload_n 2, 1) := by decide +kernel
theorem dX6_shortLead_22 : decode cX6_shortLead 22 = .ok (.laload, 1) := by decide +kernel
theorem dX6_shortLead_23 : decode cX6_shortLead 23 = .ok (.invokestatic 48, 3) := by decide +kernel
theorem dX6_shortLead_26 : decode cX6_shortLead 26 = .ok (.lstore 5, 2) := by decide +kernel
theorem dX6_shortLead_28 : decode cX6_shortLead 28 = .ok (.lload 5, 2) := by decide +kernel
theorem dX6_shortLead_30 : decode cX6_shortLead 30 = .ok (.lconst 0, 1) := by decide +kernel
theorem dX6_shortLead_31 : decode cX6_shortLead 31 = .ok (.lcmp, 1) := by decide +kernel
theorem dX6_shortLead_32 : decode cX6_shortLead 32 = .ok (.ifCond .le 10, 3) := by decide +kernel
theorem dX6_shortLead_35 : decode cX6_shortLead 35 = .ok (.lload_n 3, 1) := by decide +kernel
theorem dX6_shortLead_36 : decode cX6_shortLead 36 = .ok (.lload 5, 2) := by decide +kernel
theorem dX6_shortLead_38 : decode cX6_shortLead 38 = .ok (.ldiv, 1) := by decide +kernel
theorem dX6_shortLead_39 : decode cX6_shortLead 39 = .ok (.goto 4, 3) := by decide +kernel
theorem dX6_shortLead_42 : decode cX6_shortLead 42 = .ok (.lconst 1, 1) := by decide +kernel
theorem dX6_shortLead_43 : decode cX6_shortLead 43 = .ok (.lreturn, 1) := by decide +kernel
theorem dX6_commonMultiple_0 : decode cX6_commonMultiple 0 = .ok (.lload_n 0, 1) := by decide +kernel
theorem dX6_commonMultiple_1 : decode cX6_commonMultiple 1 = .ok (.lload_n 2, 1) := by decide +kernel
theorem dX6_commonMultiple_2 : decode cX6_commonMultiple 2 = .ok (.invokestatic 48, 3) := by decide +kernel
theorem dX6_commonMultiple_5 : decode cX6_commonMultiple 5 = .ok (.lstore 4, 2) := by decide +kernel
theorem dX6_commonMultiple_7 : decode cX6_commonMultiple 7 = .ok (.lload 4, 2) := by decide +kernel
theorem dX6_commonMultiple_9 : decode cX6_commonMultiple 9 = .ok (.lconst 0, 1) := by decide +kernel
theorem dX6_commonMultiple_10 : decode cX6_commonMultiple 10 = .ok (.lcmp, 1) := by decide +kernel
theorem dX6_commonMultiple_11 : decode cX6_commonMultiple 11 = .ok (.ifCond .le 12, 3) := by decide +kernel
theorem dX6_commonMultiple_14 : decode cX6_commonMultiple 14 = .ok (.lload_n 0, 1) := by decide +kernel
theorem dX6_commonMultiple_15 : decode cX6_commonMultiple 15 = .ok (.lload 4, 2) := by decide +kernel
theorem dX6_commonMultiple_17 : decode cX6_commonMultiple 17 = .ok (.ldiv, 1) := by decide +kernel
theorem dX6_commonMultiple_18 : decode cX6_commonMultiple 18 = .ok (.lload_n 2, 1) := by decide +kernel
theorem dX6_commonMultiple_19 : decode cX6_commonMultiple 19 = .ok (.lmul, 1) := by decide +kernel
theorem dX6_commonMultiple_20 : decode cX6_commonMultiple 20 = .ok (.goto 4, 3) := by decide +kernel
theorem dX6_commonMultiple_23 : decode cX6_commonMultiple 23 = .ok (.lconst 1, 1) := by decide +kernel
theorem dX6_commonMultiple_24 : decode cX6_commonMultiple 24 = .ok (.lreturn, 1) := by decide +kernel
theorem dX6_isZeroOnAll_0 : decode cX6_isZeroOnAll 0 = .ok (.iconst 0, 1) := by decide +kernel
theorem dX6_isZeroOnAll_1 : decode cX6_isZeroOnAll 1 = .ok (.istore_n 2, 1) := by decide +kernel
theorem dX6_isZeroOnAll_2 : decode cX6_isZeroOnAll 2 = .ok (.iload_n 2, 1) := by decide +kernel
theorem dX6_isZeroOnAll_3 : decode cX6_isZeroOnAll 3 = .ok (.aload_n 0, 1) := by decide +kernel
theorem dX6_isZeroOnAll_4 : decode cX6_isZeroOnAll 4 = .ok (.getfield 29, 3) := by decide +kernel
theorem dX6_isZeroOnAll_7 : decode cX6_isZeroOnAll 7 = .ok (.if_icmp .ge 54, 3) := by decide +kernel
theorem dX6_isZeroOnAll_10 : decode cX6_isZeroOnAll 10 = .ok (.lconst 0, 1) := by decide +kernel
theorem dX6_isZeroOnAll_11 : decode cX6_isZeroOnAll 11 = .ok (.lstore_n 3, 1) := by decide +kernel
theorem dX6_isZeroOnAll_12 : decode cX6_isZeroOnAll 12 = .ok (.iconst 0, 1) := by decide +kernel
theorem dX6_isZeroOnAll_13 : decode cX6_isZeroOnAll 13 = .ok (.istore 5, 2) := by decide +kernel
theorem dX6_isZeroOnAll_15 : decode cX6_isZeroOnAll 15 = .ok (.iload 5, 2) := by decide +kernel
theorem dX6_isZeroOnAll_17 : decode cX6_isZeroOnAll 17 = .ok (.aload_n 0, 1) := by decide +kernel
theorem dX6_isZeroOnAll_18 : decode cX6_isZeroOnAll 18 = .ok (.getfield 7, 3) := by decide +kernel
theorem dX6_isZeroOnAll_21 : decode cX6_isZeroOnAll 21 = .ok (.if_icmp .ge 26, 3) := by decide +kernel
theorem dX6_isZeroOnAll_24 : decode cX6_isZeroOnAll 24 = .ok (.lload_n 3, 1) := by decide +kernel
theorem dX6_isZeroOnAll_25 : decode cX6_isZeroOnAll 25 = .ok (.aload_n 1, 1) := by decide +kernel
theorem dX6_isZeroOnAll_26 : decode cX6_isZeroOnAll 26 = .ok (.iload 5, 2) := by decide +kernel
theorem dX6_isZeroOnAll_28 : decode cX6_isZeroOnAll 28 = .ok (.laload, 1) := by decide +kernel
theorem dX6_isZeroOnAll_29 : decode cX6_isZeroOnAll 29 = .ok (.aload_n 0, 1) := by decide +kernel
theorem dX6_isZeroOnAll_30 : decode cX6_isZeroOnAll 30 = .ok (.getfield 15, 3) := by decide +kernel
theorem dX6_isZeroOnAll_33 : decode cX6_isZeroOnAll 33 = .ok (.iload_n 2, 1) := by decide +kernel
theorem dX6_isZeroOnAll_34 : decode cX6_isZeroOnAll 34 = .ok (.aaload, 1) := by decide +kernel
theorem dX6_isZeroOnAll_35 : decode cX6_isZeroOnAll 35 = .ok (.iload 5, 2) := by decide +kernel
theorem dX6_isZeroOnAll_37 : decode cX6_isZeroOnAll 37 = .ok (.laload, 1) := by decide +kernel
theorem dX6_isZeroOnAll_38 : decode cX6_isZeroOnAll 38 = .ok (.lmul, 1) := by decide +kernel
theorem dX6_isZeroOnAll_39 : decode cX6_isZeroOnAll 39 = .ok (.ladd, 1) := by decide +kernel
theorem dX6_isZeroOnAll_40 : decode cX6_isZeroOnAll 40 = .ok (.lstore_n 3, 1) := by decide +kernel
theorem dX6_isZeroOnAll_41 : decode cX6_isZeroOnAll 41 = .ok (.iinc 5 1, 3) := by decide +kernel
theorem dX6_isZeroOnAll_44 : decode cX6_isZeroOnAll 44 = .ok (.goto (-29), 3) := by decide +kernel
theorem dX6_isZeroOnAll_47 : decode cX6_isZeroOnAll 47 = .ok (.lload_n 3, 1) := by decide +kernel
theorem dX6_isZeroOnAll_48 : decode cX6_isZeroOnAll 48 = .ok (.lconst 0, 1) := by decide +kernel
theorem dX6_isZeroOnAll_49 : decode cX6_isZeroOnAll 49 = .ok (.lcmp, 1) := by decide +kernel
theorem dX6_isZeroOnAll_50 : decode cX6_isZeroOnAll 50 = .ok (.ifCond .eq 5, 3) := by decide +kernel
theorem dX6_isZeroOnAll_53 : decode cX6_isZeroOnAll 53 = .ok (.iconst 0, 1) := by decide +kernel
theorem dX6_isZeroOnAll_54 : decode cX6_isZeroOnAll 54 = .ok (.ireturn, 1) := by decide +kernel
theorem dX6_isZeroOnAll_55 : decode cX6_isZeroOnAll 55 = .ok (.iinc 2 1, 3) := by decide +kernel
theorem dX6_isZeroOnAll_58 : decode cX6_isZeroOnAll 58 = .ok (.goto (-56), 3) := by decide +kernel
theorem dX6_isZeroOnAll_61 : decode cX6_isZeroOnAll 61 = .ok (.iconst 1, 1) := by decide +kernel
theorem dX6_isZeroOnAll_62 : decode cX6_isZeroOnAll 62 = .ok (.ireturn, 1) := by decide +kernel
theorem dX7_init_0 : decode cX7_init 0 = .ok (.aload_n 0, 1) := by decide +kernel
theorem dX7_init_1 : decode cX7_init 1 = .ok (.invokespecial 1, 3) := by decide +kernel
theorem dX7_init_4 : decode cX7_init 4 = .ok (.aload_n 0, 1) := by decide +kernel
theorem dX7_init_5 : decode cX7_init 5 = .ok (.new 7, 3) := by decide +kernel
theorem dX7_init_8 : decode cX7_init 8 = .ok (.dup, 1) := by decide +kernel
theorem dX7_init_9 : decode cX7_init 9 = .ok (.invokespecial 9, 3) := by decide +kernel
theorem dX7_init_12 : decode cX7_init 12 = .ok (.putfield 10, 3) := by decide +kernel
theorem dX7_init_15 : decode cX7_init 15 = .ok (.aload_n 0, 1) := by decide +kernel
theorem dX7_init_16 : decode cX7_init 16 = .ok (.new 16, 3) := by decide +kernel
theorem dX7_init_19 : decode cX7_init 19 = .ok (.dup, 1) := by decide +kernel
theorem dX7_init_20 : decode cX7_init 20 = .ok (.aload_n 0, 1) := by decide +kernel
theorem dX7_init_21 : decode cX7_init 21 = .ok (.getfield 10, 3) := by decide +kernel
theorem dX7_init_24 : decode cX7_init 24 = .ok (.invokespecial 18, 3) := by decide +kernel
theorem dX7_init_27 : decode cX7_init 27 = .ok (.putfield 21, 3) := by decide +kernel
theorem dX7_init_30 : decode cX7_init 30 = .ok (.aload_n 0, 1) := by decide +kernel
theorem dX7_init_31 : decode cX7_init 31 = .ok (.iconst 4, 1) := by decide +kernel
theorem dX7_init_32 : decode cX7_init 32 = .ok (.newarray .int, 2) := by decide +kernel
theorem dX7_init_34 : decode cX7_init 34 = .ok (.putfield 25, 3) := by decide +kernel
theorem dX7_init_37 : decode cX7_init 37 = .ok (.aload_n 0, 1) := by decide +kernel
theorem dX7_init_38 : decode cX7_init 38 = .ok (.iconst 4, 1) := by decide +kernel
theorem dX7_init_39 : decode cX7_init 39 = .ok (.newarray .int, 2) := by decide +kernel
theorem dX7_init_41 : decode cX7_init 41 = .ok (.putfield 29, 3) := by decide +kernel
theorem dX7_init_44 : decode cX7_init 44 = .ok (.aload_n 0, 1) := by decide +kernel
theorem dX7_init_45 : decode cX7_init 45 = .ok (.bipush 60, 2) := by decide +kernel
theorem dX7_init_47 : decode cX7_init 47 = .ok (.newarray .int, 2) := by decide +kernel
theorem dX7_init_49 : decode cX7_init 49 = .ok (.putfield 32, 3) := by decide +kernel
theorem dX7_init_52 : decode cX7_init 52 = .ok (.aload_n 0, 1) := by decide +kernel
theorem dX7_init_53 : decode cX7_init 53 = .ok (.sipush 180, 3) := by decide +kernel
theorem dX7_init_56 : decode cX7_init 56 = .ok (.newarray .int, 2) := by decide +kernel
theorem dX7_init_58 : decode cX7_init 58 = .ok (.putfield 35, 3) := by decide +kernel
theorem dX7_init_61 : decode cX7_init 61 = .ok (.aload_n 0, 1) := by decide +kernel
theorem dX7_init_62 : decode cX7_init 62 = .ok (.iconst 0, 1) := by decide +kernel
theorem dX7_init_63 : decode cX7_init 63 = .ok (.putfield 38, 3) := by decide +kernel
theorem dX7_init_66 : decode cX7_init 66 = .ok (.return_, 1) := by decide +kernel
theorem dX7_point_0 : decode cX7_point 0 = .ok (.iload_n 1, 1) := by decide +kernel
theorem dX7_point_1 : decode cX7_point 1 = .ok (.iconst 1, 1) := by decide +kernel
theorem dX7_point_2 : decode cX7_point 2 = .ok (.if_icmp .lt 8, 3) := by decide +kernel
theorem dX7_point_5 : decode cX7_point 5 = .ok (.iload_n 1, 1) := by decide +kernel
theorem dX7_point_6 : decode cX7_point 6 = .ok (.iconst 4, 1) := by decide +kernel
theorem dX7_point_7 : decode cX7_point 7 = .ok (.if_icmp .le 6, 3) := by decide +kernel
theorem dX7_point_10 : decode cX7_point 10 = .ok (.bipush (-2), 2) := by decide +kernel
theorem dX7_point_12 : decode cX7_point 12 = .ok (.ireturn, 1) := by decide +kernel
theorem dX7_point_13 : decode cX7_point 13 = .ok (.aload_n 0, 1) := by decide +kernel
theorem dX7_point_14 : decode cX7_point 14 = .ok (.getfield 10, 3) := by decide +kernel
theorem dX7_point_17 : decode cX7_point 17 = .ok (.iload_n 1, 1) := by decide +kernel
theorem dX7_point_18 : decode cX7_point 18 = .ok (.invokevirtual 42, 3) := by decide +kernel
theorem dX7_point_21 : decode cX7_point 21 = .ok (.ireturn, 1) := by decide +kernel
theorem dX7_split_0 : decode cX7_split 0 = .ok (.aload_n 0, 1) := by decide +kernel
theorem dX7_split_1 : decode cX7_split 1 = .ok (.getfield 10, 3) := by decide +kernel
theorem dX7_split_4 : decode cX7_split 4 = .ok (.iload_n 1, 1) := by decide +kernel
theorem dX7_split_5 : decode cX7_split 5 = .ok (.invokevirtual 46, 3) := by decide +kernel
theorem dX7_split_8 : decode cX7_split 8 = .ok (.astore 4, 2) := by decide +kernel
theorem dX7_split_10 : decode cX7_split 10 = .ok (.aload 4, 2) := by decide +kernel
theorem dX7_split_12 : decode cX7_split 12 = .ok (.ifnull 12, 3) := by decide +kernel
theorem dX7_split_15 : decode cX7_split 15 = .ok (.aload 4, 2) := by decide +kernel
theorem dX7_split_17 : decode cX7_split 17 = .ok (.iload_n 2, 1) := by decide +kernel
theorem dX7_split_18 : decode cX7_split 18 = .ok (.invokevirtual 50, 3) := by decide +kernel
theorem dX7_split_21 : decode cX7_split 21 = .ok (.ifCond .ne 5, 3) := by decide +kernel
theorem dX7_split_24 : decode cX7_split 24 = .ok (.iconst (-1), 1) := by decide +kernel
theorem dX7_split_25 : decode cX7_split 25 = .ok (.ireturn, 1) := by decide +kernel
theorem dX7_split_26 : decode cX7_split 26 = .ok (.iload_n 3, 1) := by decide +kernel
theorem dX7_split_27 : decode cX7_split 27 = .ok (.bipush 30, 2) := by decide +kernel
theorem dX7_split_29 : decode cX7_split 29 = .ok (.invokestatic 56, 3) := by decide +kernel
theorem dX7_split_32 : decode cX7_split 32 = .ok (.ifCond .ne 6, 3) := by decide +kernel
theorem dX7_split_35 : decode cX7_split 35 = .ok (.bipush (-2), 2) := by decide +kernel
theorem dX7_split_37 : decode cX7_split 37 = .ok (.ireturn, 1) := by decide +kernel
theorem dX7_split_38 : decode cX7_split 38 = .ok (.aload 4, 2) := by decide +kernel
theorem dX7_split_40 : decode cX7_split 40 = .ok (.iload_n 2, 1) := by decide +kernel
theorem dX7_split_41 : decode cX7_split 41 = .ok (.iload_n 3, 1) := by decide +kernel
theorem dX7_split_42 : decode cX7_split 42 = .ok (.invokevirtual 60, 3) := by decide +kernel
theorem dX7_split_45 : decode cX7_split 45 = .ok (.aload 4, 2) := by decide +kernel
theorem dX7_split_47 : decode cX7_split 47 = .ok (.getfield 64, 3) := by decide +kernel
theorem dX7_split_50 : decode cX7_split 50 = .ok (.iconst 1, 1) := by decide +kernel
theorem dX7_split_51 : decode cX7_split 51 = .ok (.aaload, 1) := by decide +kernel
theorem dX7_split_52 : decode cX7_split 52 = .ok (.getfield 68, 3) := by decide +kernel
theorem dX7_split_55 : decode cX7_split 55 = .ok (.ireturn, 1) := by decide +kernel
theorem dX7_read_0 : decode cX7_read 0 = .ok (.aload_n 0, 1) := by decide +kernel
theorem dX7_read_1 : decode cX7_read 1 = .ok (.getfield 10, 3) := by decide +kernel
theorem dX7_read_4 : decode cX7_read 4 = .ok (.iload_n 1, 1) := by decide +kernel
theorem dX7_read_5 : decode cX7_read 5 = .ok (.invokevirtual 46, 3) := by decide +kernel
theorem dX7_read_8 : decode cX7_read 8 = .ok (.astore 6, 2) := by decide +kernel
theorem dX7_read_10 : decode cX7_read 10 = .ok (.aload 6, 2) := by decide +kernel
theorem dX7_read_12 : decode cX7_read 12 = .ok (.ifnonnull 5, 3) := by decide +kernel
theorem dX7_read_15 : decode cX7_read 15 = .ok (.iconst (-1), 1) := by decide +kernel
theorem dX7_read_16 : decode cX7_read 16 = .ok (.ireturn, 1) := by decide +kernel
theorem dX7_read_17 : decode cX7_read 17 = .ok (.aload_n 0, 1) := by decide +kernel
theorem dX7_read_18 : decode cX7_read 18 = .ok (.getfield 25, 3) := by decide +kernel
theorem dX7_read_21 : decode cX7_read 21 = .ok (.iload_n 2, 1) := by decide +kernel
theorem dX7_read_22 : decode cX7_read 22 = .ok (.iload_n 3, 1) := by decide +kernel
theorem dX7_read_23 : decode cX7_read 23 = .ok (.iload 4, 2) := by decide +kernel
theorem dX7_read_25 : decode cX7_read 25 = .ok (.iload 5, 2) := by decide +kernel
theorem dX7_read_27 : decode cX7_read 27 = .ok (.invokestatic 73, 3) := by decide +kernel
theorem dX7_read_30 : decode cX7_read 30 = .ok (.aload_n 0, 1) := by decide +kernel
theorem dX7_read_31 : decode cX7_read 31 = .ok (.getfield 25, 3) := by decide +kernel
theorem dX7_read_34 : decode cX7_read 34 = .ok (.aload 6, 2) := by decide +kernel
theorem dX7_read_36 : decode cX7_read 36 = .ok (.getfield 77, 3) := by decide +kernel
theorem dX7_read_39 : decode cX7_read 39 = .ok (.bipush 30, 2) := by decide +kernel
theorem dX7_read_41 : decode cX7_read 41 = .ok (.invokestatic 80, 3) := by decide +kernel
theorem dX7_read_44 : decode cX7_read 44 = .ok (.ifCond .ne 6, 3) := by decide +kernel
theorem dX7_read_47 : decode cX7_read 47 = .ok (.bipush (-2), 2) := by decide +kernel
theorem dX7_read_49 : decode cX7_read 49 = .ok (.ireturn, 1) := by decide +kernel
theorem dX7_read_50 : decode cX7_read 50 = .ok (.aload_n 0, 1) := by decide +kernel
theorem dX7_read_51 : decode cX7_read 51 = .ok (.aload 6, 2) := by decide +kernel
theorem dX7_read_53 : decode cX7_read 53 = .ok (.aload_n 0, 1) := by decide +kernel
theorem dX7_read_54 : decode cX7_read 54 = .ok (.getfield 25, 3) := by decide +kernel
theorem dX7_read_57 : decode cX7_read 57 = .ok (.invokevirtual 84, 3) := by decide +kernel
theorem dX7_read_60 : decode cX7_read 60 = .ok (.ireturn, 1) := by decide +kernel
theorem dX7_died_0 : decode cX7_died 0 = .ok (.iload_n 1, 1) := by decide +kernel
theorem dX7_died_1 : decode cX7_died 1 = .ok (.ifCond .lt 20, 3) := by decide +kernel
theorem dX7_died_4 : decode cX7_died 4 = .ok (.iload_n 1, 1) := by decide +kernel
theorem dX7_died_5 : decode cX7_died 5 = .ok (.aload_n 0, 1) := by decide +kernel
theorem dX7_died_6 : decode cX7_died 6 = .ok (.getfield 38, 3) := by decide +kernel
theorem dX7_died_9 : decode cX7_died 9 = .ok (.if_icmp .ge 12, 3) := by decide +kernel
theorem dX7_died_12 : decode cX7_died 12 = .ok (.aload_n 0, 1) := by decide +kernel
theorem dX7_died_13 : decode cX7_died 13 = .ok (.getfield 35, 3) := by decide +kernel
theorem dX7_died_16 : decode cX7_died 16 = .ok (.iload_n 1, 1) := by decide +kernel
theorem dX7_died_17 : decode cX7_died 17 = .ok (.iaload, 1) := by decide +kernel
theorem dX7_died_18 : decode cX7_died 18 = .ok (.goto 4, 3) := by decide +kernel
theorem dX7_died_21 : decode cX7_died 21 = .ok (.iconst (-1), 1) := by decide +kernel
theorem dX7_died_22 : decode cX7_died 22 = .ok (.ireturn, 1) := by decide +kernel
theorem dX7_reading_0 : decode cX7_reading 0 = .ok (.aload_n 0, 1) := by decide +kernel
theorem dX7_reading_1 : decode cX7_reading 1 = .ok (.getfield 10, 3) := by decide +kernel
theorem dX7_reading_4 : decode cX7_reading 4 = .ok (.iload_n 1, 1) := by decide +kernel
theorem dX7_reading_5 : decode cX7_reading 5 = .ok (.invokevirtual 46, 3) := by decide +kernel
theorem dX7_reading_8 : decode cX7_reading 8 = .ok (.astore 4, 2) := by decide +kernel
theorem dX7_reading_10 : decode cX7_reading 10 = .ok (.aload 4, 2) := by decide +kernel
theorem dX7_reading_12 : decode cX7_reading 12 = .ok (.ifnull 25, 3) := by decide +kernel
theorem dX7_reading_15 : decode cX7_reading 15 = .ok (.iload_n 2, 1) := by decide +kernel
theorem dX7_reading_16 : decode cX7_reading 16 = .ok (.ifCond .lt 21, 3) := by decide +kernel
theorem dX7_reading_19 : decode cX7_reading 19 = .ok (.iload_n 2, 1) := by decide +kernel
theorem dX7_reading_20 : decode cX7_reading 20 = .ok (.aload 4, 2) := by decide +kernel
theorem dX7_reading_22 : decode cX7_reading 22 = .ok (.getfield 88, 3) := by decide +kernel
theorem dX7_reading_25 : decode cX7_reading 25 = .ok (.if_icmp .ge 12, 3) := by decide +kernel
theorem dX7_reading_28 : decode cX7_reading 28 = .ok (.aload 4, 2) := by decide +kernel
theorem dX7_reading_30 : decode cX7_reading 30 = .ok (.iload_n 3, 1) := by decide +kernel
theorem dX7_reading_31 : decode cX7_reading 31 = .ok (.invokevirtual 50, 3) := by decide +kernel
theorem dX7_reading_34 : decode cX7_reading 34 = .ok (.ifCond .ne 6, 3) := by decide +kernel
theorem dX7_reading_37 : decode cX7_reading 37 = .ok (.bipush (-9), 2) := by decide +kernel
theorem dX7_reading_39 : decode cX7_reading 39 = .ok (.ireturn, 1) := by decide +kernel
theorem dX7_reading_40 : decode cX7_reading 40 = .ok (.aload 4, 2) := by decide +kernel
theorem dX7_reading_42 : decode cX7_reading 42 = .ok (.getfield 89, 3) := by decide +kernel
theorem dX7_reading_45 : decode cX7_reading 45 = .ok (.iload_n 2, 1) := by decide +kernel
theorem dX7_reading_46 : decode cX7_reading 46 = .ok (.aaload, 1) := by decide +kernel
theorem dX7_reading_47 : decode cX7_reading 47 = .ok (.iload_n 3, 1) := by decide +kernel
theorem dX7_reading_48 : decode cX7_reading 48 = .ok (.iaload, 1) := by decide +kernel
theorem dX7_reading_49 : decode cX7_reading 49 = .ok (.ireturn, 1) := by decide +kernel
theorem dX7_tried_0 : decode cX7_tried 0 = .ok (.aload_n 0, 1) := by decide +kernel
theorem dX7_tried_1 : decode cX7_tried 1 = .ok (.getfield 10, 3) := by decide +kernel
theorem dX7_tried_4 : decode cX7_tried 4 = .ok (.iload_n 1, 1) := by decide +kernel
theorem dX7_tried_5 : decode cX7_tried 5 = .ok (.iload_n 2, 1) := by decide +kernel
theorem dX7_tried_6 : decode cX7_tried 6 = .ok (.invokevirtual 93, 3) := by decide +kernel
theorem dX7_tried_9 : decode cX7_tried 9 = .ok (.astore_n 3, 1) := by decide +kernel
theorem dX7_tried_10 : decode cX7_tried 10 = .ok (.aload_n 3, 1) := by decide +kernel
theorem dX7_tried_11 : decode cX7_tried 11 = .ok (.ifnonnull 7, 3) := by decide +kernel
theorem dX7_tried_14 : decode cX7_tried 14 = .ok (.iconst (-1), 1) := by decide +kernel
theorem dX7_tried_15 : decode cX7_tried 15 = .ok (.goto 7, 3) := by decide +kernel
theorem dX7_tried_18 : decode cX7_tried 18 = .ok (.aload_n 3, 1) := by decide +kernel
theorem dX7_tried_19 : decode cX7_tried 19 = .ok (.getfield 68, 3) := by decide +kernel
theorem dX7_tried_22 : decode cX7_tried 22 = .ok (.ireturn, 1) := by decide +kernel
theorem dX7_holds_0 : decode cX7_holds 0 = .ok (.aload_n 0, 1) := by decide +kernel
theorem dX7_holds_1 : decode cX7_holds 1 = .ok (.getfield 10, 3) := by decide +kernel
theorem dX7_holds_4 : decode cX7_holds 4 = .ok (.iload_n 1, 1) := by decide +kernel
theorem dX7_holds_5 : decode cX7_holds 5 = .ok (.iload_n 2, 1) := by decide +kernel
theorem dX7_holds_6 : decode cX7_holds 6 = .ok (.invokevirtual 93, 3) := by decide +kernel
theorem dX7_holds_9 : decode cX7_holds 9 = .ok (.astore 6, 2) := by decide +kernel
theorem dX7_holds_11 : decode cX7_holds 11 = .ok (.aload 6, 2) := by decide +kernel
theorem dX7_holds_13 : decode cX7_holds 13 = .ok (.ifnull 13, 3) := by decide +kernel
theorem dX7_holds_16 : decode cX7_holds 16 = .ok (.aload 6, 2) := by decide +kernel
theorem dX7_holds_18 : decode cX7_holds 18 = .ok (.iload 4, 2) := by decide +kernel
theorem dX7_holds_20 : decode cX7_holds 20 = .ok (.invokevirtual 97, 3) := by decide +kernel
theorem dX7_holds_23 : decode cX7_holds 23 = .ok (.ifCond .ne 5, 3) := by decide +kernel
theorem dX7_holds_26 : decode cX7_holds 26 = .ok (.iconst (-1), 1) := by decide +kernel
theorem dX7_holds_27 : decode cX7_holds 27 = .ok (.ireturn, 1) := by decide +kernel
theorem dX7_holds_28 : decode cX7_holds 28 = .ok (.iconst 0, 1) := by decide +kernel
theorem dX7_holds_29 : decode cX7_holds 29 = .ok (.istore 7, 2) := by decide +kernel
theorem dX7_holds_31 : decode cX7_holds 31 = .ok (.iload_n 3, 1) := by decide +kernel
theorem dX7_holds_32 : decode cX7_holds 32 = .ok (.invokestatic 98, 3) := by decide +kernel
theorem dX7_holds_35 : decode cX7_holds 35 = .ok (.ifCond .eq 19, 3) := by decide +kernel
theorem dX7_holds_38 : decode cX7_holds 38 = .ok (.aload 6, 2) := by decide +kernel
theorem dX7_holds_40 : decode cX7_holds 40 = .ok (.iload 5, 2) := by decide +kernel
theorem dX7_holds_42 : decode cX7_holds 42 = .ok (.invokevirtual 97, 3) := by decide +kernel
theorem dX7_holds_45 : decode cX7_holds 45 = .ok (.ifCond .ne 5, 3) := by decide +kernel
theorem dX7_holds_48 : decode cX7_holds 48 = .ok (.iconst (-1), 1) := by decide +kernel
theorem dX7_holds_49 : decode cX7_holds 49 = .ok (.ireturn, 1) := by decide +kernel
theorem dX7_holds_50 : decode cX7_holds 50 = .ok (.iload 5, 2) := by decide +kernel
theorem dX7_holds_52 : decode cX7_holds 52 = .ok (.istore 7, 2) := by decide +kernel
theorem dX7_holds_54 : decode cX7_holds 54 = .ok (.iload_n 3, 1) := by decide +kernel
theorem dX7_holds_55 : decode cX7_holds 55 = .ok (.iload 4, 2) := by decide +kernel
theorem dX7_holds_57 : decode cX7_holds 57 = .ok (.iload 7, 2) := by decide +kernel
theorem dX7_holds_59 : decode cX7_holds 59 = .ok (.invokestatic 101, 3) := by decide +kernel
theorem dX7_holds_62 : decode cX7_holds 62 = .ok (.ifCond .ne 6, 3) := by decide +kernel
theorem dX7_holds_65 : decode cX7_holds 65 = .ok (.bipush (-2), 2) := by decide +kernel
theorem dX7_holds_67 : decode cX7_holds 67 = .ok (.ireturn, 1) := by decide +kernel
theorem dX7_holds_68 : decode cX7_holds 68 = .ok (.aload 6, 2) := by decide +kernel
theorem dX7_holds_70 : decode cX7_holds 70 = .ok (.getfield 68, 3) := by decide +kernel
theorem dX7_holds_73 : decode cX7_holds 73 = .ok (.ifCond .ne 6, 3) := by decide +kernel
theorem dX7_holds_76 : decode cX7_holds 76 = .ok (.bipush (-9), 2) := by decide +kernel
theorem dX7_holds_78 : decode cX7_holds 78 = .ok (.ireturn, 1) := by decide +kernel
theorem dX7_holds_79 : decode cX7_holds 79 = .ok (.aload 6, 2) := by decide +kernel
theorem dX7_holds_81 : decode cX7_holds 81 = .ok (.iload_n 3, 1) := by decide +kernel
theorem dX7_holds_82 : decode cX7_holds 82 = .ok (.iload 4, 2) := by decide +kernel
theorem dX7_holds_84 : decode cX7_holds 84 = .ok (.iload 7, 2) := by decide +kernel
theorem dX7_holds_86 : decode cX7_holds 86 = .ok (.invokevirtual 105, 3) := by decide +kernel
theorem dX7_holds_89 : decode cX7_holds 89 = .ok (.ifCond .eq 7, 3) := by decide +kernel
theorem dX7_holds_92 : decode cX7_holds 92 = .ok (.iconst 1, 1) := by decide +kernel
theorem dX7_holds_93 : decode cX7_holds 93 = .ok (.goto 4, 3) := by decide +kernel
theorem dX7_holds_96 : decode cX7_holds 96 = .ok (.iconst 0, 1) := by decide +kernel
theorem dX7_holds_97 : decode cX7_holds 97 = .ok (.ireturn, 1) := by decide +kernel
theorem dX7_number_0 : decode cX7_number 0 = .ok (.aload_n 0, 1) := by decide +kernel
theorem dX7_number_1 : decode cX7_number 1 = .ok (.getfield 10, 3) := by decide +kernel
theorem dX7_number_4 : decode cX7_number 4 = .ok (.iload_n 1, 1) := by decide +kernel
theorem dX7_number_5 : decode cX7_number 5 = .ok (.iload_n 2, 1) := by decide +kernel
theorem dX7_number_6 : decode cX7_number 6 = .ok (.invokevirtual 93, 3) := by decide +kernel
theorem dX7_number_9 : decode cX7_number 9 = .ok (.astore 6, 2) := by decide +kernel
theorem dX7_number_11 : decode cX7_number 11 = .ok (.aload 6, 2) := by decide +kernel
theorem dX7_number_13 : decode cX7_number 13 = .ok (.ifnull 22, 3) := by decide +kernel
theorem dX7_number_16 : decode cX7_number 16 = .ok (.aload 6, 2) := by decide +kernel
theorem dX7_number_18 : decode cX7_number 18 = .ok (.iload 4, 2) := by decide +kernel
theorem dX7_number_20 : decode cX7_number 20 = .ok (.invokevirtual 97, 3) := by decide +kernel
theorem dX7_number_23 : decode cX7_number 23 = .ok (.ifCond .eq 12, 3) := by decide +kernel
theorem dX7_number_26 : decode cX7_number 26 = .ok (.iload_n 3, 1) := by decide +kernel
theorem dX7_number_27 : decode cX7_number 27 = .ok (.ifCond .lt 8, 3) := by decide +kernel
theorem dX7_number_30 : decode cX7_number 30 = .ok (.iload_n 3, 1) := by decide +kernel
theorem dX7_number_31 : decode cX7_number 31 = .ok (.iconst 4, 1) := by decide +kernel
theorem dX7_number_32 : decode cX7_number 32 = .ok (.if_icmp .le 7, 3) := by decide +kernel
theorem dX7_number_35 : decode cX7_number 35 = .ok (.sipush (-1000), 3) := by decide +kernel
theorem dX7_number_38 : decode cX7_number 38 = .ok (.ireturn, 1) := by decide +kernel
theorem dX7_number_39 : decode cX7_number 39 = .ok (.aload 6, 2) := by decide +kernel
theorem dX7_number_41 : decode cX7_number 41 = .ok (.iload_n 3, 1) := by decide +kernel
theorem dX7_number_42 : decode cX7_number 42 = .ok (.iload 4, 2) := by decide +kernel
theorem dX7_number_44 : decode cX7_number 44 = .ok (.iconst 0, 1) := by decide +kernel
theorem dX7_number_45 : decode cX7_number 45 = .ok (.invokevirtual 105, 3) := by decide +kernel
theorem dX7_number_48 : decode cX7_number 48 = .ok (.ifCond .eq 16, 3) := by decide +kernel
theorem dX7_number_51 : decode cX7_number 51 = .ok (.aload 6, 2) := by decide +kernel
theorem dX7_number_53 : decode cX7_number 53 = .ok (.iload_n 3, 1) := by decide +kernel
theorem dX7_number_54 : decode cX7_number 54 = .ok (.iload 4, 2) := by decide +kernel
theorem dX7_number_56 : decode cX7_number 56 = .ok (.iload 5, 2) := by decide +kernel
theorem dX7_number_58 : decode cX7_number 58 = .ok (.invokevirtual 108, 3) := by decide +kernel
theorem dX7_number_61 : decode cX7_number 61 = .ok (.goto 6, 3) := by decide +kernel
theorem dX7_number_64 : decode cX7_number 64 = .ok (.sipush (-1000), 3) := by decide +kernel
theorem dX7_number_67 : decode cX7_number 67 = .ok (.ireturn, 1) := by decide +kernel
theorem dX7_guesses_0 : decode cX7_guesses 0 = .ok (.aload_n 0, 1) := by decide +kernel
theorem dX7_guesses_1 : decode cX7_guesses 1 = .ok (.getfield 10, 3) := by decide +kernel
theorem dX7_guesses_4 : decode cX7_guesses 4 = .ok (.iload_n 1, 1) := by decide +kernel
theorem dX7_guesses_5 : decode cX7_guesses 5 = .ok (.iload_n 2, 1) := by decide +kernel
theorem dX7_guesses_6 : decode cX7_guesses 6 = .ok (.invokevirtual 93, 3) := by decide +kernel
theorem dX7_guesses_9 : decode cX7_guesses 9 = .ok (.astore_n 3, 1) := by decide +kernel
theorem dX7_guesses_10 : decode cX7_guesses 10 = .ok (.aload_n 3, 1) := by decide +kernel
theorem dX7_guesses_11 : decode cX7_guesses 11 = .ok (.ifnonnull 7, 3) := by decide +kernel
theorem dX7_guesses_14 : decode cX7_guesses 14 = .ok (.iconst (-1), 1) := by decide +kernel
theorem dX7_guesses_15 : decode cX7_guesses 15 = .ok (.goto 12, 3) := by decide +kernel
theorem dX7_guesses_18 : decode cX7_guesses 18 = .ok (.aload_n 3, 1) := by decide +kernel
theorem dX7_guesses_19 : decode cX7_guesses 19 = .ok (.iconst 1, 1) := by decide +kernel
theorem dX7_guesses_20 : decode cX7_guesses 20 = .ok (.aload_n 0, 1) := by decide +kernel
theorem dX7_guesses_21 : decode cX7_guesses 21 = .ok (.getfield 32, 3) := by decide +kernel
theorem dX7_guesses_24 : decode cX7_guesses 24 = .ok (.invokevirtual 112, 3) := by decide +kernel
theorem dX7_guesses_27 : decode cX7_guesses 27 = .ok (.ireturn, 1) := by decide +kernel
theorem dX7_guess_0 : decode cX7_guess 0 = .ok (.aload_n 0, 1) := by decide +kernel
theorem dX7_guess_1 : decode cX7_guess 1 = .ok (.getfield 10, 3) := by decide +kernel
theorem dX7_guess_4 : decode cX7_guess 4 = .ok (.iload_n 1, 1) := by decide +kernel
theorem dX7_guess_5 : decode cX7_guess 5 = .ok (.iload_n 2, 1) := by decide +kernel
theorem dX7_guess_6 : decode cX7_guess 6 = .ok (.invokevirtual 93, 3) := by decide +kernel
theorem dX7_guess_9 : decode cX7_guess 9 = .ok (.astore 4, 2) := by decide +kernel
theorem dX7_guess_11 : decode cX7_guess 11 = .ok (.aload 4, 2) := by decide +kernel
theorem dX7_guess_13 : decode cX7_guess 13 = .ok (.ifnull 21, 3) := by decide +kernel
theorem dX7_guess_16 : decode cX7_guess 16 = .ok (.iload_n 3, 1) := by decide +kernel
theorem dX7_guess_17 : decode cX7_guess 17 = .ok (.ifCond .lt 17, 3) := by decide +kernel
theorem dX7_guess_20 : decode cX7_guess 20 = .ok (.iload_n 3, 1) := by decide +kernel
theorem dX7_guess_21 : decode cX7_guess 21 = .ok (.aload 4, 2) := by decide +kernel
theorem dX7_guess_23 : decode cX7_guess 23 = .ok (.iconst 1, 1) := by decide +kernel
theorem dX7_guess_24 : decode cX7_guess 24 = .ok (.aload_n 0, 1) := by decide +kernel
theorem dX7_guess_25 : decode cX7_guess 25 = .ok (.getfield 32, 3) := by decide +kernel
theorem dX7_guess_28 : decode cX7_guess 28 = .ok (.invokevirtual 112, 3) := by decide +kernel
theorem dX7_guess_31 : decode cX7_guess 31 = .ok (.if_icmp .lt 5, 3) := by decide +kernel
theorem dX7_guess_34 : decode cX7_guess 34 = .ok (.iconst (-1), 1) := by decide +kernel
theorem dX7_guess_35 : decode cX7_guess 35 = .ok (.ireturn, 1) := by decide +kernel
theorem dX7_guess_36 : decode cX7_guess 36 = .ok (.aload_n 0, 1) := by decide +kernel
theorem dX7_guess_37 : decode cX7_guess 37 = .ok (.getfield 32, 3) := by decide +kernel
theorem dX7_guess_40 : decode cX7_guess 40 = .ok (.iload_n 3, 1) := by decide +kernel
theorem dX7_guess_41 : decode cX7_guess 41 = .ok (.iaload, 1) := by decide +kernel
theorem dX7_guess_42 : decode cX7_guess 42 = .ok (.ireturn, 1) := by decide +kernel
theorem dX7_sums_0 : decode cX7_sums 0 = .ok (.aload_n 0, 1) := by decide +kernel
theorem dX7_sums_1 : decode cX7_sums 1 = .ok (.getfield 10, 3) := by decide +kernel
theorem dX7_sums_4 : decode cX7_sums 4 = .ok (.iload_n 1, 1) := by decide +kernel
theorem dX7_sums_5 : decode cX7_sums 5 = .ok (.iload_n 2, 1) := by decide +kernel
theorem dX7_sums_6 : decode cX7_sums 6 = .ok (.invokevirtual 93, 3) := by decide +kernel
theorem dX7_sums_9 : decode cX7_sums 9 = .ok (.astore_n 3, 1) := by decide +kernel
theorem dX7_sums_10 : decode cX7_sums 10 = .ok (.aload_n 3, 1) := by decide +kernel
theorem dX7_sums_11 : decode cX7_sums 11 = .ok (.ifnonnull 5, 3) := by decide +kernel
theorem dX7_sums_14 : decode cX7_sums 14 = .ok (.iconst (-1), 1) := by decide +kernel
