theorem dX8_isTwo_49 : decode cX8_isTwo 49 = .ok (.invokevirtual 123, 3) := by decide +kernel
theorem dX8_isTwo_52 : decode cX8_isTwo 52 = .ok (.invokestatic 151, 3) := by decide +kernel
theorem dX8_isTwo_55 : decode cX8_isTwo 55 = .ok (.ifCond .eq 7, 3) := by decide +kernel
theorem dX8_isTwo_58 : decode cX8_isTwo 58 = .ok (.iconst 1, 1) := by decide +kernel
theorem dX8_isTwo_59 : decode cX8_isTwo 59 = .ok (.goto 4, 3) := by decide +kernel
theorem dX8_isTwo_62 : decode cX8_isTwo 62 = .ok (.iconst 0, 1) := by decide +kernel
theorem dX8_isTwo_63 : decode cX8_isTwo 63 = .ok (.istore 6, 2) := by decide +kernel
theorem dX8_isTwo_65 : decode cX8_isTwo 65 = .ok (.iinc 7 1, 3) := by decide +kernel
theorem dX8_isTwo_68 : decode cX8_isTwo 68 = .ok (.goto (-62), 3) := by decide +kernel
theorem dX8_isTwo_71 : decode cX8_isTwo 71 = .ok (.iload 6, 2) := by decide +kernel
theorem dX8_isTwo_73 : decode cX8_isTwo 73 = .ok (.ireturn, 1) := by decide +kernel
theorem dX8_isRising_0 : decode cX8_isRising 0 = .ok (.bipush (-31), 2) := by decide +kernel
theorem dX8_isRising_2 : decode cX8_isRising 2 = .ok (.istore 4, 2) := by decide +kernel
theorem dX8_isRising_4 : decode cX8_isRising 4 = .ok (.iconst 1, 1) := by decide +kernel
theorem dX8_isRising_5 : decode cX8_isRising 5 = .ok (.istore 5, 2) := by decide +kernel
theorem dX8_isRising_7 : decode cX8_isRising 7 = .ok (.iconst 0, 1) := by decide +kernel
theorem dX8_isRising_8 : decode cX8_isRising 8 = .ok (.istore 6, 2) := by decide +kernel
theorem dX8_isRising_10 : decode cX8_isRising 10 = .ok (.iload 6, 2) := by decide +kernel
theorem dX8_isRising_12 : decode cX8_isRising 12 = .ok (.aload_n 0, 1) := by decide +kernel
theorem dX8_isRising_13 : decode cX8_isRising 13 = .ok (.getfield 13, 3) := by decide +kernel
theorem dX8_isRising_16 : decode cX8_isRising 16 = .ok (.iload_n 1, 1) := by decide +kernel
theorem dX8_isRising_17 : decode cX8_isRising 17 = .ok (.iaload, 1) := by decide +kernel
theorem dX8_isRising_18 : decode cX8_isRising 18 = .ok (.if_icmp .ge 55, 3) := by decide +kernel
theorem dX8_isRising_21 : decode cX8_isRising 21 = .ok (.aload_n 0, 1) := by decide +kernel
theorem dX8_isRising_22 : decode cX8_isRising 22 = .ok (.iload_n 1, 1) := by decide +kernel
theorem dX8_isRising_23 : decode cX8_isRising 23 = .ok (.iload_n 2, 1) := by decide +kernel
theorem dX8_isRising_24 : decode cX8_isRising 24 = .ok (.iload 6, 2) := by decide +kernel
theorem dX8_isRising_26 : decode cX8_isRising 26 = .ok (.invokevirtual 127, 3) := by decide +kernel
theorem dX8_isRising_29 : decode cX8_isRising 29 = .ok (.ifCond .eq 38, 3) := by decide +kernel
theorem dX8_isRising_32 : decode cX8_isRising 32 = .ok (.iload 5, 2) := by decide +kernel
theorem dX8_isRising_34 : decode cX8_isRising 34 = .ok (.ifCond .eq 20, 3) := by decide +kernel
theorem dX8_isRising_37 : decode cX8_isRising 37 = .ok (.aload_n 0, 1) := by decide +kernel
theorem dX8_isRising_38 : decode cX8_isRising 38 = .ok (.iload_n 1, 1) := by decide +kernel
theorem dX8_isRising_39 : decode cX8_isRising 39 = .ok (.iload 6, 2) := by decide +kernel
theorem dX8_isRising_41 : decode cX8_isRising 41 = .ok (.iload_n 3, 1) := by decide +kernel
theorem dX8_isRising_42 : decode cX8_isRising 42 = .ok (.invokevirtual 123, 3) := by decide +kernel
theorem dX8_isRising_45 : decode cX8_isRising 45 = .ok (.iload 4, 2) := by decide +kernel
theorem dX8_isRising_47 : decode cX8_isRising 47 = .ok (.if_icmp .lt 7, 3) := by decide +kernel
theorem dX8_isRising_50 : decode cX8_isRising 50 = .ok (.iconst 1, 1) := by decide +kernel
theorem dX8_isRising_51 : decode cX8_isRising 51 = .ok (.goto 4, 3) := by decide +kernel
theorem dX8_isRising_54 : decode cX8_isRising 54 = .ok (.iconst 0, 1) := by decide +kernel
theorem dX8_isRising_55 : decode cX8_isRising 55 = .ok (.istore 5, 2) := by decide +kernel
theorem dX8_isRising_57 : decode cX8_isRising 57 = .ok (.aload_n 0, 1) := by decide +kernel
theorem dX8_isRising_58 : decode cX8_isRising 58 = .ok (.iload_n 1, 1) := by decide +kernel
theorem dX8_isRising_59 : decode cX8_isRising 59 = .ok (.iload 6, 2) := by decide +kernel
theorem dX8_isRising_61 : decode cX8_isRising 61 = .ok (.iload_n 3, 1) := by decide +kernel
theorem dX8_isRising_62 : decode cX8_isRising 62 = .ok (.invokevirtual 123, 3) := by decide +kernel
theorem dX8_isRising_65 : decode cX8_isRising 65 = .ok (.istore 4, 2) := by decide +kernel
theorem dX8_isRising_67 : decode cX8_isRising 67 = .ok (.iinc 6 1, 3) := by decide +kernel
theorem dX8_isRising_70 : decode cX8_isRising 70 = .ok (.goto (-60), 3) := by decide +kernel
theorem dX8_isRising_73 : decode cX8_isRising 73 = .ok (.iload 5, 2) := by decide +kernel
theorem dX8_isRising_75 : decode cX8_isRising 75 = .ok (.ireturn, 1) := by decide +kernel
theorem dX8_isSo_0 : decode cX8_isSo 0 = .ok (.iload_n 3, 1) := by decide +kernel
theorem dX8_isSo_1 : decode cX8_isSo 1 = .ok (.tableswitch 135 0 9 #[55, 77, 107, 107, 109, 135, 135, 135, 135, 126], 55) := by decide +kernel
theorem dX8_isSo_56 : decode cX8_isSo 56 = .ok (.aload_n 0, 1) := by decide +kernel
theorem dX8_isSo_57 : decode cX8_isSo 57 = .ok (.iload_n 1, 1) := by decide +kernel
theorem dX8_isSo_58 : decode cX8_isSo 58 = .ok (.iload_n 2, 1) := by decide +kernel
theorem dX8_isSo_59 : decode cX8_isSo 59 = .ok (.iload 4, 2) := by decide +kernel
theorem dX8_isSo_61 : decode cX8_isSo 61 = .ok (.invokevirtual 154, 3) := by decide +kernel
theorem dX8_isSo_64 : decode cX8_isSo 64 = .ok (.aload_n 0, 1) := by decide +kernel
theorem dX8_isSo_65 : decode cX8_isSo 65 = .ok (.getfield 141, 3) := by decide +kernel
theorem dX8_isSo_68 : decode cX8_isSo 68 = .ok (.iconst 1, 1) := by decide +kernel
theorem dX8_isSo_69 : decode cX8_isSo 69 = .ok (.if_icmp .ne 7, 3) := by decide +kernel
theorem dX8_isSo_72 : decode cX8_isSo 72 = .ok (.iconst 1, 1) := by decide +kernel
theorem dX8_isSo_73 : decode cX8_isSo 73 = .ok (.goto 4, 3) := by decide +kernel
theorem dX8_isSo_76 : decode cX8_isSo 76 = .ok (.iconst 0, 1) := by decide +kernel
theorem dX8_isSo_77 : decode cX8_isSo 77 = .ok (.ireturn, 1) := by decide +kernel
theorem dX8_isSo_78 : decode cX8_isSo 78 = .ok (.aload_n 0, 1) := by decide +kernel
theorem dX8_isSo_79 : decode cX8_isSo 79 = .ok (.iload_n 1, 1) := by decide +kernel
theorem dX8_isSo_80 : decode cX8_isSo 80 = .ok (.iload_n 2, 1) := by decide +kernel
theorem dX8_isSo_81 : decode cX8_isSo 81 = .ok (.iload 4, 2) := by decide +kernel
theorem dX8_isSo_83 : decode cX8_isSo 83 = .ok (.invokevirtual 154, 3) := by decide +kernel
theorem dX8_isSo_86 : decode cX8_isSo 86 = .ok (.aload_n 0, 1) := by decide +kernel
theorem dX8_isSo_87 : decode cX8_isSo 87 = .ok (.getfield 141, 3) := by decide +kernel
theorem dX8_isSo_90 : decode cX8_isSo 90 = .ok (.iconst 2, 1) := by decide +kernel
theorem dX8_isSo_91 : decode cX8_isSo 91 = .ok (.if_icmp .eq 11, 3) := by decide +kernel
theorem dX8_isSo_94 : decode cX8_isSo 94 = .ok (.aload_n 0, 1) := by decide +kernel
theorem dX8_isSo_95 : decode cX8_isSo 95 = .ok (.getfield 141, 3) := by decide +kernel
theorem dX8_isSo_98 : decode cX8_isSo 98 = .ok (.iconst 3, 1) := by decide +kernel
theorem dX8_isSo_99 : decode cX8_isSo 99 = .ok (.if_icmp .ne 7, 3) := by decide +kernel
theorem dX8_isSo_102 : decode cX8_isSo 102 = .ok (.iconst 1, 1) := by decide +kernel
theorem dX8_isSo_103 : decode cX8_isSo 103 = .ok (.goto 4, 3) := by decide +kernel
theorem dX8_isSo_106 : decode cX8_isSo 106 = .ok (.iconst 0, 1) := by decide +kernel
theorem dX8_isSo_107 : decode cX8_isSo 107 = .ok (.ireturn, 1) := by decide +kernel
theorem dX8_isSo_108 : decode cX8_isSo 108 = .ok (.iconst 1, 1) := by decide +kernel
theorem dX8_isSo_109 : decode cX8_isSo 109 = .ok (.ireturn, 1) := by decide +kernel
theorem dX8_isSo_110 : decode cX8_isSo 110 = .ok (.aload_n 0, 1) := by decide +kernel
theorem dX8_isSo_111 : decode cX8_isSo 111 = .ok (.iload_n 1, 1) := by decide +kernel
theorem dX8_isSo_112 : decode cX8_isSo 112 = .ok (.iload_n 2, 1) := by decide +kernel
theorem dX8_isSo_113 : decode cX8_isSo 113 = .ok (.iload 4, 2) := by decide +kernel
theorem dX8_isSo_115 : decode cX8_isSo 115 = .ok (.invokevirtual 158, 3) := by decide +kernel
theorem dX8_isSo_118 : decode cX8_isSo 118 = .ok (.ifCond .le 7, 3) := by decide +kernel
theorem dX8_isSo_121 : decode cX8_isSo 121 = .ok (.iconst 1, 1) := by decide +kernel
theorem dX8_isSo_122 : decode cX8_isSo 122 = .ok (.goto 4, 3) := by decide +kernel
theorem dX8_isSo_125 : decode cX8_isSo 125 = .ok (.iconst 0, 1) := by decide +kernel
theorem dX8_isSo_126 : decode cX8_isSo 126 = .ok (.ireturn, 1) := by decide +kernel
theorem dX8_isSo_127 : decode cX8_isSo 127 = .ok (.aload_n 0, 1) := by decide +kernel
theorem dX8_isSo_128 : decode cX8_isSo 128 = .ok (.iload_n 1, 1) := by decide +kernel
theorem dX8_isSo_129 : decode cX8_isSo 129 = .ok (.iload_n 2, 1) := by decide +kernel
theorem dX8_isSo_130 : decode cX8_isSo 130 = .ok (.iload 4, 2) := by decide +kernel
theorem dX8_isSo_132 : decode cX8_isSo 132 = .ok (.invokevirtual 161, 3) := by decide +kernel
theorem dX8_isSo_135 : decode cX8_isSo 135 = .ok (.ireturn, 1) := by decide +kernel
theorem dX8_isSo_136 : decode cX8_isSo 136 = .ok (.aload_n 0, 1) := by decide +kernel
theorem dX8_isSo_137 : decode cX8_isSo 137 = .ok (.iload_n 1, 1) := by decide +kernel
theorem dX8_isSo_138 : decode cX8_isSo 138 = .ok (.iload_n 2, 1) := by decide +kernel
theorem dX8_isSo_139 : decode cX8_isSo 139 = .ok (.iload_n 3, 1) := by decide +kernel
theorem dX8_isSo_140 : decode cX8_isSo 140 = .ok (.iload 4, 2) := by decide +kernel
theorem dX8_isSo_142 : decode cX8_isSo 142 = .ok (.iload 5, 2) := by decide +kernel
theorem dX8_isSo_144 : decode cX8_isSo 144 = .ok (.invokevirtual 164, 3) := by decide +kernel
theorem dX8_isSo_147 : decode cX8_isSo 147 = .ok (.ireturn, 1) := by decide +kernel
theorem dX8_isOfTwo_0 : decode cX8_isOfTwo 0 = .ok (.iload_n 0, 1) := by decide +kernel
theorem dX8_isOfTwo_1 : decode cX8_isOfTwo 1 = .ok (.iconst 5, 1) := by decide +kernel
theorem dX8_isOfTwo_2 : decode cX8_isOfTwo 2 = .ok (.bipush 8, 2) := by decide +kernel
theorem dX8_isOfTwo_4 : decode cX8_isOfTwo 4 = .ok (.invokestatic 115, 3) := by decide +kernel
theorem dX8_isOfTwo_7 : decode cX8_isOfTwo 7 = .ok (.ireturn, 1) := by decide +kernel
theorem dX8_hasSuch_0 : decode cX8_hasSuch 0 = .ok (.iload_n 0, 1) := by decide +kernel
theorem dX8_hasSuch_1 : decode cX8_hasSuch 1 = .ok (.invokestatic 168, 3) := by decide +kernel
theorem dX8_hasSuch_4 : decode cX8_hasSuch 4 = .ok (.ifCond .eq 27, 3) := by decide +kernel
theorem dX8_hasSuch_7 : decode cX8_hasSuch 7 = .ok (.iload_n 0, 1) := by decide +kernel
theorem dX8_hasSuch_8 : decode cX8_hasSuch 8 = .ok (.iconst 5, 1) := by decide +kernel
theorem dX8_hasSuch_9 : decode cX8_hasSuch 9 = .ok (.if_icmp .eq 9, 3) := by decide +kernel
theorem dX8_hasSuch_12 : decode cX8_hasSuch 12 = .ok (.iload_n 0, 1) := by decide +kernel
theorem dX8_hasSuch_13 : decode cX8_hasSuch 13 = .ok (.bipush 8, 2) := by decide +kernel
theorem dX8_hasSuch_15 : decode cX8_hasSuch 15 = .ok (.if_icmp .ne 11, 3) := by decide +kernel
theorem dX8_hasSuch_18 : decode cX8_hasSuch 18 = .ok (.iload_n 1, 1) := by decide +kernel
theorem dX8_hasSuch_19 : decode cX8_hasSuch 19 = .ok (.iload_n 2, 1) := by decide +kernel
theorem dX8_hasSuch_20 : decode cX8_hasSuch 20 = .ok (.if_icmp .ge 15, 3) := by decide +kernel
theorem dX8_hasSuch_23 : decode cX8_hasSuch 23 = .ok (.goto 8, 3) := by decide +kernel
theorem dX8_hasSuch_26 : decode cX8_hasSuch 26 = .ok (.iload_n 1, 1) := by decide +kernel
theorem dX8_hasSuch_27 : decode cX8_hasSuch 27 = .ok (.iload_n 2, 1) := by decide +kernel
theorem dX8_hasSuch_28 : decode cX8_hasSuch 28 = .ok (.if_icmp .eq 7, 3) := by decide +kernel
theorem dX8_hasSuch_31 : decode cX8_hasSuch 31 = .ok (.iconst 1, 1) := by decide +kernel
theorem dX8_hasSuch_32 : decode cX8_hasSuch 32 = .ok (.goto 4, 3) := by decide +kernel
theorem dX8_hasSuch_35 : decode cX8_hasSuch 35 = .ok (.iconst 0, 1) := by decide +kernel
theorem dX8_hasSuch_36 : decode cX8_hasSuch 36 = .ok (.ireturn, 1) := by decide +kernel
theorem dX8_holds_0 : decode cX8_holds 0 = .ok (.aload_n 0, 1) := by decide +kernel
theorem dX8_holds_1 : decode cX8_holds 1 = .ok (.iload_n 1, 1) := by decide +kernel
theorem dX8_holds_2 : decode cX8_holds 2 = .ok (.iload_n 2, 1) := by decide +kernel
theorem dX8_holds_3 : decode cX8_holds 3 = .ok (.invokevirtual 138, 3) := by decide +kernel
theorem dX8_holds_6 : decode cX8_holds 6 = .ok (.ifCond .ne 30, 3) := by decide +kernel
theorem dX8_holds_9 : decode cX8_holds 9 = .ok (.aload_n 0, 1) := by decide +kernel
theorem dX8_holds_10 : decode cX8_holds 10 = .ok (.iload_n 1, 1) := by decide +kernel
theorem dX8_holds_11 : decode cX8_holds 11 = .ok (.iload 4, 2) := by decide +kernel
theorem dX8_holds_13 : decode cX8_holds 13 = .ok (.invokevirtual 130, 3) := by decide +kernel
theorem dX8_holds_16 : decode cX8_holds 16 = .ok (.ifCond .ne 20, 3) := by decide +kernel
theorem dX8_holds_19 : decode cX8_holds 19 = .ok (.iload_n 3, 1) := by decide +kernel
theorem dX8_holds_20 : decode cX8_holds 20 = .ok (.invokestatic 168, 3) := by decide +kernel
theorem dX8_holds_23 : decode cX8_holds 23 = .ok (.ifCond .eq 15, 3) := by decide +kernel
theorem dX8_holds_26 : decode cX8_holds 26 = .ok (.aload_n 0, 1) := by decide +kernel
theorem dX8_holds_27 : decode cX8_holds 27 = .ok (.iload_n 1, 1) := by decide +kernel
theorem dX8_holds_28 : decode cX8_holds 28 = .ok (.iload 5, 2) := by decide +kernel
theorem dX8_holds_30 : decode cX8_holds 30 = .ok (.invokevirtual 130, 3) := by decide +kernel
theorem dX8_holds_33 : decode cX8_holds 33 = .ok (.ifCond .eq 5, 3) := by decide +kernel
theorem dX8_holds_36 : decode cX8_holds 36 = .ok (.iconst (-1), 1) := by decide +kernel
theorem dX8_holds_37 : decode cX8_holds 37 = .ok (.ireturn, 1) := by decide +kernel
theorem dX8_holds_38 : decode cX8_holds 38 = .ok (.iload_n 3, 1) := by decide +kernel
theorem dX8_holds_39 : decode cX8_holds 39 = .ok (.iconst 0, 1) := by decide +kernel
theorem dX8_holds_40 : decode cX8_holds 40 = .ok (.bipush 9, 2) := by decide +kernel
theorem dX8_holds_42 : decode cX8_holds 42 = .ok (.invokestatic 115, 3) := by decide +kernel
theorem dX8_holds_45 : decode cX8_holds 45 = .ok (.ifCond .eq 14, 3) := by decide +kernel
theorem dX8_holds_48 : decode cX8_holds 48 = .ok (.iload_n 3, 1) := by decide +kernel
theorem dX8_holds_49 : decode cX8_holds 49 = .ok (.iload 4, 2) := by decide +kernel
theorem dX8_holds_51 : decode cX8_holds 51 = .ok (.iload 5, 2) := by decide +kernel
theorem dX8_holds_53 : decode cX8_holds 53 = .ok (.invokestatic 171, 3) := by decide +kernel
theorem dX8_holds_56 : decode cX8_holds 56 = .ok (.ifCond .ne 6, 3) := by decide +kernel
theorem dX8_holds_59 : decode cX8_holds 59 = .ok (.bipush (-2), 2) := by decide +kernel
theorem dX8_holds_61 : decode cX8_holds 61 = .ok (.ireturn, 1) := by decide +kernel
theorem dX8_holds_62 : decode cX8_holds 62 = .ok (.aload_n 0, 1) := by decide +kernel
theorem dX8_holds_63 : decode cX8_holds 63 = .ok (.iload_n 1, 1) := by decide +kernel
theorem dX8_holds_64 : decode cX8_holds 64 = .ok (.iload_n 2, 1) := by decide +kernel
theorem dX8_holds_65 : decode cX8_holds 65 = .ok (.invokevirtual 134, 3) := by decide +kernel
theorem dX8_holds_68 : decode cX8_holds 68 = .ok (.ifCond .ne 8, 3) := by decide +kernel
theorem dX8_holds_71 : decode cX8_holds 71 = .ok (.bipush (-9), 2) := by decide +kernel
theorem dX8_holds_73 : decode cX8_holds 73 = .ok (.goto 22, 3) := by decide +kernel
theorem dX8_holds_76 : decode cX8_holds 76 = .ok (.aload_n 0, 1) := by decide +kernel
theorem dX8_holds_77 : decode cX8_holds 77 = .ok (.iload_n 1, 1) := by decide +kernel
theorem dX8_holds_78 : decode cX8_holds 78 = .ok (.iload_n 2, 1) := by decide +kernel
theorem dX8_holds_79 : decode cX8_holds 79 = .ok (.iload_n 3, 1) := by decide +kernel
theorem dX8_holds_80 : decode cX8_holds 80 = .ok (.iload 4, 2) := by decide +kernel
theorem dX8_holds_82 : decode cX8_holds 82 = .ok (.iload 5, 2) := by decide +kernel
theorem dX8_holds_84 : decode cX8_holds 84 = .ok (.invokevirtual 174, 3) := by decide +kernel
theorem dX8_holds_87 : decode cX8_holds 87 = .ok (.ifCond .eq 7, 3) := by decide +kernel
theorem dX8_holds_90 : decode cX8_holds 90 = .ok (.iconst 1, 1) := by decide +kernel
theorem dX8_holds_91 : decode cX8_holds 91 = .ok (.goto 4, 3) := by decide +kernel
theorem dX8_holds_94 : decode cX8_holds 94 = .ok (.iconst 0, 1) := by decide +kernel
theorem dX8_holds_95 : decode cX8_holds 95 = .ok (.ireturn, 1) := by decide +kernel
theorem dX8_number_0 : decode cX8_number 0 = .ok (.aload_n 0, 1) := by decide +kernel
theorem dX8_number_1 : decode cX8_number 1 = .ok (.iload_n 1, 1) := by decide +kernel
theorem dX8_number_2 : decode cX8_number 2 = .ok (.iload_n 2, 1) := by decide +kernel
theorem dX8_number_3 : decode cX8_number 3 = .ok (.invokevirtual 138, 3) := by decide +kernel
theorem dX8_number_6 : decode cX8_number 6 = .ok (.ifCond .ne 54, 3) := by decide +kernel
theorem dX8_number_9 : decode cX8_number 9 = .ok (.aload_n 0, 1) := by decide +kernel
theorem dX8_number_10 : decode cX8_number 10 = .ok (.iload_n 1, 1) := by decide +kernel
theorem dX8_number_11 : decode cX8_number 11 = .ok (.iload 4, 2) := by decide +kernel
theorem dX8_number_13 : decode cX8_number 13 = .ok (.invokevirtual 130, 3) := by decide +kernel
theorem dX8_number_16 : decode cX8_number 16 = .ok (.ifCond .ne 44, 3) := by decide +kernel
theorem dX8_number_19 : decode cX8_number 19 = .ok (.iload_n 3, 1) := by decide +kernel
theorem dX8_number_20 : decode cX8_number 20 = .ok (.iconst 0, 1) := by decide +kernel
theorem dX8_number_21 : decode cX8_number 21 = .ok (.iconst 4, 1) := by decide +kernel
theorem dX8_number_22 : decode cX8_number 22 = .ok (.invokestatic 115, 3) := by decide +kernel
theorem dX8_number_25 : decode cX8_number 25 = .ok (.ifCond .eq 35, 3) := by decide +kernel
theorem dX8_number_28 : decode cX8_number 28 = .ok (.iload 5, 2) := by decide +kernel
theorem dX8_number_30 : decode cX8_number 30 = .ok (.iconst 0, 1) := by decide +kernel
theorem dX8_number_31 : decode cX8_number 31 = .ok (.iconst 4, 1) := by decide +kernel
theorem dX8_number_32 : decode cX8_number 32 = .ok (.invokestatic 115, 3) := by decide +kernel
theorem dX8_number_35 : decode cX8_number 35 = .ok (.ifCond .eq 25, 3) := by decide +kernel
theorem dX8_number_38 : decode cX8_number 38 = .ok (.aload_n 0, 1) := by decide +kernel
theorem dX8_number_39 : decode cX8_number 39 = .ok (.iload_n 1, 1) := by decide +kernel
theorem dX8_number_40 : decode cX8_number 40 = .ok (.iload_n 2, 1) := by decide +kernel
theorem dX8_number_41 : decode cX8_number 41 = .ok (.invokevirtual 134, 3) := by decide +kernel
theorem dX8_number_44 : decode cX8_number 44 = .ok (.ifCond .eq 16, 3) := by decide +kernel
theorem dX8_number_47 : decode cX8_number 47 = .ok (.aload_n 0, 1) := by decide +kernel
theorem dX8_number_48 : decode cX8_number 48 = .ok (.iload_n 1, 1) := by decide +kernel
theorem dX8_number_49 : decode cX8_number 49 = .ok (.iload_n 2, 1) := by decide +kernel
theorem dX8_number_50 : decode cX8_number 50 = .ok (.iload_n 3, 1) := by decide +kernel
theorem dX8_number_51 : decode cX8_number 51 = .ok (.iload 4, 2) := by decide +kernel
theorem dX8_number_53 : decode cX8_number 53 = .ok (.iconst 0, 1) := by decide +kernel
theorem dX8_number_54 : decode cX8_number 54 = .ok (.invokevirtual 174, 3) := by decide +kernel
theorem dX8_number_57 : decode cX8_number 57 = .ok (.ifCond .ne 7, 3) := by decide +kernel
theorem dX8_number_60 : decode cX8_number 60 = .ok (.sipush (-1000), 3) := by decide +kernel
theorem dX8_number_63 : decode cX8_number 63 = .ok (.ireturn, 1) := by decide +kernel
theorem dX8_number_64 : decode cX8_number 64 = .ok (.iload_n 3, 1) := by decide +kernel
theorem dX8_number_65 : decode cX8_number 65 = .ok (.iconst 1, 1) := by decide +kernel
theorem dX8_number_66 : decode cX8_number 66 = .ok (.if_icmp .ne 56, 3) := by decide +kernel
theorem dX8_number_69 : decode cX8_number 69 = .ok (.aload_n 0, 1) := by decide +kernel
theorem dX8_number_70 : decode cX8_number 70 = .ok (.iload_n 1, 1) := by decide +kernel
theorem dX8_number_71 : decode cX8_number 71 = .ok (.iload_n 2, 1) := by decide +kernel
theorem dX8_number_72 : decode cX8_number 72 = .ok (.iload 4, 2) := by decide +kernel
theorem dX8_number_74 : decode cX8_number 74 = .ok (.invokevirtual 154, 3) := by decide +kernel
theorem dX8_number_77 : decode cX8_number 77 = .ok (.iload 5, 2) := by decide +kernel
theorem dX8_number_79 : decode cX8_number 79 = .ok (.ifCond .ne 10, 3) := by decide +kernel
theorem dX8_number_82 : decode cX8_number 82 = .ok (.aload_n 0, 1) := by decide +kernel
theorem dX8_number_83 : decode cX8_number 83 = .ok (.getfield 141, 3) := by decide +kernel
theorem dX8_number_86 : decode cX8_number 86 = .ok (.goto 35, 3) := by decide +kernel
theorem dX8_number_89 : decode cX8_number 89 = .ok (.iload 5, 2) := by decide +kernel
theorem dX8_number_91 : decode cX8_number 91 = .ok (.iconst 1, 1) := by decide +kernel
theorem dX8_number_92 : decode cX8_number 92 = .ok (.if_icmp .le 26, 3) := by decide +kernel
theorem dX8_number_95 : decode cX8_number 95 = .ok (.iload 5, 2) := by decide +kernel
theorem dX8_number_97 : decode cX8_number 97 = .ok (.iconst 2, 1) := by decide +kernel
theorem dX8_number_98 : decode cX8_number 98 = .ok (.isub, 1) := by decide +kernel
theorem dX8_number_99 : decode cX8_number 99 = .ok (.aload_n 0, 1) := by decide +kernel
theorem dX8_number_100 : decode cX8_number 100 = .ok (.getfield 141, 3) := by decide +kernel
theorem dX8_number_103 : decode cX8_number 103 = .ok (.if_icmp .ge 15, 3) := by decide +kernel
theorem dX8_number_106 : decode cX8_number 106 = .ok (.aload_n 0, 1) := by decide +kernel
theorem dX8_number_107 : decode cX8_number 107 = .ok (.getfield 29, 3) := by decide +kernel
theorem dX8_number_110 : decode cX8_number 110 = .ok (.iload 5, 2) := by decide +kernel
theorem dX8_number_112 : decode cX8_number 112 = .ok (.iconst 2, 1) := by decide +kernel
theorem dX8_number_113 : decode cX8_number 113 = .ok (.isub, 1) := by decide +kernel
theorem dX8_number_114 : decode cX8_number 114 = .ok (.iaload, 1) := by decide +kernel
theorem dX8_number_115 : decode cX8_number 115 = .ok (.goto 6, 3) := by decide +kernel
theorem dX8_number_118 : decode cX8_number 118 = .ok (.sipush (-1000), 3) := by decide +kernel
theorem dX8_number_121 : decode cX8_number 121 = .ok (.ireturn, 1) := by decide +kernel
theorem dX8_number_122 : decode cX8_number 122 = .ok (.iload_n 3, 1) := by decide +kernel
theorem dX8_number_123 : decode cX8_number 123 = .ok (.iconst 4, 1) := by decide +kernel
theorem dX8_number_124 : decode cX8_number 124 = .ok (.if_icmp .ne 50, 3) := by decide +kernel
theorem dX8_number_127 : decode cX8_number 127 = .ok (.aload_n 0, 1) := by decide +kernel
theorem dX8_number_128 : decode cX8_number 128 = .ok (.iload_n 1, 1) := by decide +kernel
theorem dX8_number_129 : decode cX8_number 129 = .ok (.iload_n 2, 1) := by decide +kernel
theorem dX8_number_130 : decode cX8_number 130 = .ok (.iload 4, 2) := by decide +kernel
theorem dX8_number_132 : decode cX8_number 132 = .ok (.invokevirtual 158, 3) := by decide +kernel
theorem dX8_number_135 : decode cX8_number 135 = .ok (.istore 6, 2) := by decide +kernel
theorem dX8_number_137 : decode cX8_number 137 = .ok (.iload 5, 2) := by decide +kernel
theorem dX8_number_139 : decode cX8_number 139 = .ok (.ifCond .ne 8, 3) := by decide +kernel
theorem dX8_number_142 : decode cX8_number 142 = .ok (.iload 6, 2) := by decide +kernel
theorem dX8_number_144 : decode cX8_number 144 = .ok (.goto 29, 3) := by decide +kernel
theorem dX8_number_147 : decode cX8_number 147 = .ok (.iload 5, 2) := by decide +kernel
theorem dX8_number_149 : decode cX8_number 149 = .ok (.iconst 1, 1) := by decide +kernel
theorem dX8_number_150 : decode cX8_number 150 = .ok (.if_icmp .ne 20, 3) := by decide +kernel
theorem dX8_number_153 : decode cX8_number 153 = .ok (.aload_n 0, 1) := by decide +kernel
theorem dX8_number_154 : decode cX8_number 154 = .ok (.iload_n 1, 1) := by decide +kernel
theorem dX8_number_155 : decode cX8_number 155 = .ok (.iload_n 2, 1) := by decide +kernel
theorem dX8_number_156 : decode cX8_number 156 = .ok (.iload 4, 2) := by decide +kernel
theorem dX8_number_158 : decode cX8_number 158 = .ok (.iconst 0, 1) := by decide +kernel
theorem dX8_number_159 : decode cX8_number 159 = .ok (.invokevirtual 177, 3) := by decide +kernel
theorem dX8_number_162 : decode cX8_number 162 = .ok (.iload 6, 2) := by decide +kernel
theorem dX8_number_164 : decode cX8_number 164 = .ok (.invokestatic 148, 3) := by decide +kernel
theorem dX8_number_167 : decode cX8_number 167 = .ok (.goto 6, 3) := by decide +kernel
theorem dX8_number_170 : decode cX8_number 170 = .ok (.sipush (-1000), 3) := by decide +kernel
theorem dX8_number_173 : decode cX8_number 173 = .ok (.ireturn, 1) := by decide +kernel
theorem dX8_number_174 : decode cX8_number 174 = .ok (.iload 5, 2) := by decide +kernel
theorem dX8_number_176 : decode cX8_number 176 = .ok (.ifCond .ne 24, 3) := by decide +kernel
theorem dX8_number_179 : decode cX8_number 179 = .ok (.aload_n 0, 1) := by decide +kernel
theorem dX8_number_180 : decode cX8_number 180 = .ok (.iload_n 1, 1) := by decide +kernel
theorem dX8_number_181 : decode cX8_number 181 = .ok (.iload_n 2, 1) := by decide +kernel
theorem dX8_number_182 : decode cX8_number 182 = .ok (.iload 4, 2) := by decide +kernel
theorem dX8_number_184 : decode cX8_number 184 = .ok (.iload_n 3, 1) := by decide +kernel
theorem dX8_number_185 : decode cX8_number 185 = .ok (.iconst 3, 1) := by decide +kernel
theorem dX8_number_186 : decode cX8_number 186 = .ok (.if_icmp .ne 7, 3) := by decide +kernel
theorem dX8_number_189 : decode cX8_number 189 = .ok (.iconst 1, 1) := by decide +kernel
theorem dX8_number_190 : decode cX8_number 190 = .ok (.goto 4, 3) := by decide +kernel
theorem dX8_number_193 : decode cX8_number 193 = .ok (.iconst 0, 1) := by decide +kernel
theorem dX8_number_194 : decode cX8_number 194 = .ok (.invokevirtual 177, 3) := by decide +kernel
theorem dX8_number_197 : decode cX8_number 197 = .ok (.goto 6, 3) := by decide +kernel
theorem dX8_number_200 : decode cX8_number 200 = .ok (.sipush (-1000), 3) := by decide +kernel
theorem dX8_number_203 : decode cX8_number 203 = .ok (.ireturn, 1) := by decide +kernel
theorem dX8_isSaid_0 : decode cX8_isSaid 0 = .ok (.iload_n 3, 1) := by decide +kernel
theorem dX8_isSaid_1 : decode cX8_isSaid 1 = .ok (.ifCond .ne 5, 3) := by decide +kernel
theorem dX8_isSaid_4 : decode cX8_isSaid 4 = .ok (.iconst 0, 1) := by decide +kernel
theorem dX8_isSaid_5 : decode cX8_isSaid 5 = .ok (.ireturn, 1) := by decide +kernel
theorem dX8_isSaid_6 : decode cX8_isSaid 6 = .ok (.iload_n 3, 1) := by decide +kernel
theorem dX8_isSaid_7 : decode cX8_isSaid 7 = .ok (.invokestatic 168, 3) := by decide +kernel
theorem dX8_isSaid_10 : decode cX8_isSaid 10 = .ok (.ifCond .ne 14, 3) := by decide +kernel
theorem dX8_isSaid_13 : decode cX8_isSaid 13 = .ok (.aload_n 0, 1) := by decide +kernel
theorem dX8_isSaid_14 : decode cX8_isSaid 14 = .ok (.iload_n 1, 1) := by decide +kernel
theorem dX8_isSaid_15 : decode cX8_isSaid 15 = .ok (.iload_n 2, 1) := by decide +kernel
theorem dX8_isSaid_16 : decode cX8_isSaid 16 = .ok (.iconst 0, 1) := by decide +kernel
theorem dX8_isSaid_17 : decode cX8_isSaid 17 = .ok (.iload 4, 2) := by decide +kernel
theorem dX8_isSaid_19 : decode cX8_isSaid 19 = .ok (.iconst 0, 1) := by decide +kernel
theorem dX8_isSaid_20 : decode cX8_isSaid 20 = .ok (.invokevirtual 174, 3) := by decide +kernel
theorem dX8_isSaid_23 : decode cX8_isSaid 23 = .ok (.ireturn, 1) := by decide +kernel
theorem dX8_isSaid_24 : decode cX8_isSaid 24 = .ok (.aload_n 0, 1) := by decide +kernel
theorem dX8_isSaid_25 : decode cX8_isSaid 25 = .ok (.iload_n 1, 1) := by decide +kernel
theorem dX8_isSaid_26 : decode cX8_isSaid 26 = .ok (.iload_n 2, 1) := by decide +kernel
theorem dX8_isSaid_27 : decode cX8_isSaid 27 = .ok (.iconst 0, 1) := by decide +kernel
theorem dX8_isSaid_28 : decode cX8_isSaid 28 = .ok (.iload 4, 2) := by decide +kernel
theorem dX8_isSaid_30 : decode cX8_isSaid 30 = .ok (.iconst 0, 1) := by decide +kernel
theorem dX8_isSaid_31 : decode cX8_isSaid 31 = .ok (.invokevirtual 174, 3) := by decide +kernel
theorem dX8_isSaid_34 : decode cX8_isSaid 34 = .ok (.ifCond .eq 18, 3) := by decide +kernel
theorem dX8_isSaid_37 : decode cX8_isSaid 37 = .ok (.aload_n 0, 1) := by decide +kernel
theorem dX8_isSaid_38 : decode cX8_isSaid 38 = .ok (.iload_n 1, 1) := by decide +kernel
theorem dX8_isSaid_39 : decode cX8_isSaid 39 = .ok (.iload_n 2, 1) := by decide +kernel
theorem dX8_isSaid_40 : decode cX8_isSaid 40 = .ok (.iconst 0, 1) := by decide +kernel
theorem dX8_isSaid_41 : decode cX8_isSaid 41 = .ok (.iload 5, 2) := by decide +kernel
theorem dX8_isSaid_43 : decode cX8_isSaid 43 = .ok (.iconst 0, 1) := by decide +kernel
theorem dX8_isSaid_44 : decode cX8_isSaid 44 = .ok (.invokevirtual 174, 3) := by decide +kernel
theorem dX8_isSaid_47 : decode cX8_isSaid 47 = .ok (.ifCond .eq 5, 3) := by decide +kernel
theorem dX8_isSaid_50 : decode cX8_isSaid 50 = .ok (.iconst 1, 1) := by decide +kernel
theorem dX8_isSaid_51 : decode cX8_isSaid 51 = .ok (.ireturn, 1) := by decide +kernel
theorem dX8_isSaid_52 : decode cX8_isSaid 52 = .ok (.aload_n 0, 1) := by decide +kernel
theorem dX8_isSaid_53 : decode cX8_isSaid 53 = .ok (.iload_n 1, 1) := by decide +kernel
theorem dX8_isSaid_54 : decode cX8_isSaid 54 = .ok (.iload_n 2, 1) := by decide +kernel
theorem dX8_isSaid_55 : decode cX8_isSaid 55 = .ok (.bipush 6, 2) := by decide +kernel
theorem dX8_isSaid_57 : decode cX8_isSaid 57 = .ok (.iload 4, 2) := by decide +kernel
theorem dX8_isSaid_59 : decode cX8_isSaid 59 = .ok (.iload 5, 2) := by decide +kernel
theorem dX8_isSaid_61 : decode cX8_isSaid 61 = .ok (.invokevirtual 164, 3) := by decide +kernel
theorem dX8_isSaid_64 : decode cX8_isSaid 64 = .ok (.istore 6, 2) := by decide +kernel
theorem dX8_isSaid_66 : decode cX8_isSaid 66 = .ok (.iload_n 3, 1) := by decide +kernel
theorem dX8_isSaid_67 : decode cX8_isSaid 67 = .ok (.bipush 7, 2) := by decide +kernel
theorem dX8_isSaid_69 : decode cX8_isSaid 69 = .ok (.if_icmp .ne 30, 3) := by decide +kernel
theorem dX8_isSaid_72 : decode cX8_isSaid 72 = .ok (.iload 6, 2) := by decide +kernel
theorem dX8_isSaid_74 : decode cX8_isSaid 74 = .ok (.ifCond .ne 17, 3) := by decide +kernel
theorem dX8_isSaid_77 : decode cX8_isSaid 77 = .ok (.aload_n 0, 1) := by decide +kernel
theorem dX8_isSaid_78 : decode cX8_isSaid 78 = .ok (.iload_n 1, 1) := by decide +kernel
theorem dX8_isSaid_79 : decode cX8_isSaid 79 = .ok (.iload_n 2, 1) := by decide +kernel
theorem dX8_isSaid_80 : decode cX8_isSaid 80 = .ok (.iconst 5, 1) := by decide +kernel
theorem dX8_isSaid_81 : decode cX8_isSaid 81 = .ok (.iload 4, 2) := by decide +kernel
theorem dX8_isSaid_83 : decode cX8_isSaid 83 = .ok (.iload 5, 2) := by decide +kernel
theorem dX8_isSaid_85 : decode cX8_isSaid 85 = .ok (.invokevirtual 164, 3) := by decide +kernel
theorem dX8_isSaid_88 : decode cX8_isSaid 88 = .ok (.ifCond .eq 7, 3) := by decide +kernel
theorem dX8_isSaid_91 : decode cX8_isSaid 91 = .ok (.iconst 1, 1) := by decide +kernel
theorem dX8_isSaid_92 : decode cX8_isSaid 92 = .ok (.goto 38, 3) := by decide +kernel
theorem dX8_isSaid_95 : decode cX8_isSaid 95 = .ok (.iconst 0, 1) := by decide +kernel
theorem dX8_isSaid_96 : decode cX8_isSaid 96 = .ok (.goto 34, 3) := by decide +kernel
theorem dX8_isSaid_99 : decode cX8_isSaid 99 = .ok (.iload_n 3, 1) := by decide +kernel
theorem dX8_isSaid_100 : decode cX8_isSaid 100 = .ok (.bipush 8, 2) := by decide +kernel
theorem dX8_isSaid_102 : decode cX8_isSaid 102 = .ok (.if_icmp .ne 27, 3) := by decide +kernel
theorem dX8_isSaid_105 : decode cX8_isSaid 105 = .ok (.iload 6, 2) := by decide +kernel
theorem dX8_isSaid_107 : decode cX8_isSaid 107 = .ok (.ifCond .ne 18, 3) := by decide +kernel
theorem dX8_isSaid_110 : decode cX8_isSaid 110 = .ok (.aload_n 0, 1) := by decide +kernel
theorem dX8_isSaid_111 : decode cX8_isSaid 111 = .ok (.iload_n 1, 1) := by decide +kernel
theorem dX8_isSaid_112 : decode cX8_isSaid 112 = .ok (.iload_n 2, 1) := by decide +kernel
theorem dX8_isSaid_113 : decode cX8_isSaid 113 = .ok (.bipush 6, 2) := by decide +kernel
theorem dX8_isSaid_115 : decode cX8_isSaid 115 = .ok (.iload 5, 2) := by decide +kernel
theorem dX8_isSaid_117 : decode cX8_isSaid 117 = .ok (.iload 4, 2) := by decide +kernel
theorem dX8_isSaid_119 : decode cX8_isSaid 119 = .ok (.invokevirtual 164, 3) := by decide +kernel
theorem dX8_isSaid_122 : decode cX8_isSaid 122 = .ok (.ifCond .eq 7, 3) := by decide +kernel
theorem dX8_isSaid_125 : decode cX8_isSaid 125 = .ok (.iconst 1, 1) := by decide +kernel
theorem dX8_isSaid_126 : decode cX8_isSaid 126 = .ok (.goto 4, 3) := by decide +kernel
theorem dX8_isSaid_129 : decode cX8_isSaid 129 = .ok (.iconst 0, 1) := by decide +kernel
theorem dX8_isSaid_130 : decode cX8_isSaid 130 = .ok (.ireturn, 1) := by decide +kernel
theorem dX8_findGuesses_0 : decode cX8_findGuesses 0 = .ok (.aload_n 0, 1) := by decide +kernel
theorem dX8_findGuesses_1 : decode cX8_findGuesses 1 = .ok (.iconst 0, 1) := by decide +kernel
theorem dX8_findGuesses_2 : decode cX8_findGuesses 2 = .ok (.putfield 181, 3) := by decide +kernel
theorem dX8_findGuesses_5 : decode cX8_findGuesses 5 = .ok (.aload_n 0, 1) := by decide +kernel
theorem dX8_findGuesses_6 : decode cX8_findGuesses 6 = .ok (.iload_n 1, 1) := by decide +kernel
theorem dX8_findGuesses_7 : decode cX8_findGuesses 7 = .ok (.iload_n 2, 1) := by decide +kernel
theorem dX8_findGuesses_8 : decode cX8_findGuesses 8 = .ok (.invokevirtual 134, 3) := by decide +kernel
theorem dX8_findGuesses_11 : decode cX8_findGuesses 11 = .ok (.ifCond .ne 4, 3) := by decide +kernel
theorem dX8_findGuesses_14 : decode cX8_findGuesses 14 = .ok (.return_, 1) := by decide +kernel
theorem dX8_findGuesses_15 : decode cX8_findGuesses 15 = .ok (.iconst 0, 1) := by decide +kernel
theorem dX8_findGuesses_16 : decode cX8_findGuesses 16 = .ok (.istore 4, 2) := by decide +kernel
theorem dX8_findGuesses_18 : decode cX8_findGuesses 18 = .ok (.iload 4, 2) := by decide +kernel
theorem dX8_findGuesses_20 : decode cX8_findGuesses 20 = .ok (.bipush 10, 2) := by decide +kernel
theorem dX8_findGuesses_22 : decode cX8_findGuesses 22 = .ok (.if_icmp .ge 140, 3) := by decide +kernel
theorem dX8_findGuesses_25 : decode cX8_findGuesses 25 = .ok (.iconst 0, 1) := by decide +kernel
theorem dX8_findGuesses_26 : decode cX8_findGuesses 26 = .ok (.istore 5, 2) := by decide +kernel
theorem dX8_findGuesses_28 : decode cX8_findGuesses 28 = .ok (.iload 5, 2) := by decide +kernel
theorem dX8_findGuesses_30 : decode cX8_findGuesses 30 = .ok (.aload_n 0, 1) := by decide +kernel
theorem dX8_findGuesses_31 : decode cX8_findGuesses 31 = .ok (.getfield 7, 3) := by decide +kernel
theorem dX8_findGuesses_34 : decode cX8_findGuesses 34 = .ok (.iload_n 1, 1) := by decide +kernel
theorem dX8_findGuesses_35 : decode cX8_findGuesses 35 = .ok (.iaload, 1) := by decide +kernel
theorem dX8_findGuesses_36 : decode cX8_findGuesses 36 = .ok (.if_icmp .ge 120, 3) := by decide +kernel
theorem dX8_findGuesses_39 : decode cX8_findGuesses 39 = .ok (.iconst 0, 1) := by decide +kernel
theorem dX8_findGuesses_40 : decode cX8_findGuesses 40 = .ok (.istore 6, 2) := by decide +kernel
theorem dX8_findGuesses_42 : decode cX8_findGuesses 42 = .ok (.iload 6, 2) := by decide +kernel
theorem dX8_findGuesses_44 : decode cX8_findGuesses 44 = .ok (.iload 4, 2) := by decide +kernel
theorem dX8_findGuesses_46 : decode cX8_findGuesses 46 = .ok (.invokestatic 168, 3) := by decide +kernel
theorem dX8_findGuesses_49 : decode cX8_findGuesses 49 = .ok (.ifCond .eq 12, 3) := by decide +kernel
theorem dX8_findGuesses_52 : decode cX8_findGuesses 52 = .ok (.aload_n 0, 1) := by decide +kernel
theorem dX8_findGuesses_53 : decode cX8_findGuesses 53 = .ok (.getfield 7, 3) := by decide +kernel
theorem dX8_findGuesses_56 : decode cX8_findGuesses 56 = .ok (.iload_n 1, 1) := by decide +kernel
theorem dX8_findGuesses_57 : decode cX8_findGuesses 57 = .ok (.iaload, 1) := by decide +kernel
theorem dX8_findGuesses_58 : decode cX8_findGuesses 58 = .ok (.goto 4, 3) := by decide +kernel
theorem dX8_findGuesses_61 : decode cX8_findGuesses 61 = .ok (.iconst 1, 1) := by decide +kernel
theorem dX8_findGuesses_62 : decode cX8_findGuesses 62 = .ok (.if_icmp .ge 88, 3) := by decide +kernel
theorem dX8_findGuesses_65 : decode cX8_findGuesses 65 = .ok (.iload 4, 2) := by decide +kernel
theorem dX8_findGuesses_67 : decode cX8_findGuesses 67 = .ok (.iload 5, 2) := by decide +kernel
theorem dX8_findGuesses_69 : decode cX8_findGuesses 69 = .ok (.iload 6, 2) := by decide +kernel
theorem dX8_findGuesses_71 : decode cX8_findGuesses 71 = .ok (.invokestatic 171, 3) := by decide +kernel
theorem dX8_findGuesses_74 : decode cX8_findGuesses 74 = .ok (.ifCond .eq 70, 3) := by decide +kernel
theorem dX8_findGuesses_77 : decode cX8_findGuesses 77 = .ok (.aload_n 0, 1) := by decide +kernel
theorem dX8_findGuesses_78 : decode cX8_findGuesses 78 = .ok (.iload_n 1, 1) := by decide +kernel
theorem dX8_findGuesses_79 : decode cX8_findGuesses 79 = .ok (.iload_n 2, 1) := by decide +kernel
theorem dX8_findGuesses_80 : decode cX8_findGuesses 80 = .ok (.iload 4, 2) := by decide +kernel
theorem dX8_findGuesses_82 : decode cX8_findGuesses 82 = .ok (.iload 5, 2) := by decide +kernel
theorem dX8_findGuesses_84 : decode cX8_findGuesses 84 = .ok (.iload 6, 2) := by decide +kernel
theorem dX8_findGuesses_86 : decode cX8_findGuesses 86 = .ok (.invokevirtual 174, 3) := by decide +kernel
theorem dX8_findGuesses_89 : decode cX8_findGuesses 89 = .ok (.ifCond .eq 55, 3) := by decide +kernel
theorem dX8_findGuesses_92 : decode cX8_findGuesses 92 = .ok (.iload_n 3, 1) := by decide +kernel
theorem dX8_findGuesses_93 : decode cX8_findGuesses 93 = .ok (.ifCond .eq 18, 3) := by decide +kernel
theorem dX8_findGuesses_96 : decode cX8_findGuesses 96 = .ok (.aload_n 0, 1) := by decide +kernel
theorem dX8_findGuesses_97 : decode cX8_findGuesses 97 = .ok (.iload_n 1, 1) := by decide +kernel
theorem dX8_findGuesses_98 : decode cX8_findGuesses 98 = .ok (.iload_n 2, 1) := by decide +kernel
theorem dX8_findGuesses_99 : decode cX8_findGuesses 99 = .ok (.iload 4, 2) := by decide +kernel
theorem dX8_findGuesses_101 : decode cX8_findGuesses 101 = .ok (.iload 5, 2) := by decide +kernel
theorem dX8_findGuesses_103 : decode cX8_findGuesses 103 = .ok (.iload 6, 2) := by decide +kernel
theorem dX8_findGuesses_105 : decode cX8_findGuesses 105 = .ok (.invokevirtual 184, 3) := by decide +kernel
theorem dX8_findGuesses_108 : decode cX8_findGuesses 108 = .ok (.ifCond .ne 36, 3) := by decide +kernel
theorem dX8_findGuesses_111 : decode cX8_findGuesses 111 = .ok (.aload_n 0, 1) := by decide +kernel
theorem dX8_findGuesses_112 : decode cX8_findGuesses 112 = .ok (.getfield 32, 3) := by decide +kernel
theorem dX8_findGuesses_115 : decode cX8_findGuesses 115 = .ok (.aload_n 0, 1) := by decide +kernel
theorem dX8_findGuesses_116 : decode cX8_findGuesses 116 = .ok (.getfield 181, 3) := by decide +kernel
theorem dX8_findGuesses_119 : decode cX8_findGuesses 119 = .ok (.bipush 100, 2) := by decide +kernel
theorem dX8_findGuesses_121 : decode cX8_findGuesses 121 = .ok (.iload 4, 2) := by decide +kernel
theorem dX8_findGuesses_123 : decode cX8_findGuesses 123 = .ok (.imul, 1) := by decide +kernel
theorem dX8_findGuesses_124 : decode cX8_findGuesses 124 = .ok (.bipush 10, 2) := by decide +kernel
theorem dX8_findGuesses_126 : decode cX8_findGuesses 126 = .ok (.iload 5, 2) := by decide +kernel
theorem dX8_findGuesses_128 : decode cX8_findGuesses 128 = .ok (.imul, 1) := by decide +kernel
theorem dX8_findGuesses_129 : decode cX8_findGuesses 129 = .ok (.iadd, 1) := by decide +kernel
theorem dX8_findGuesses_130 : decode cX8_findGuesses 130 = .ok (.iload 6, 2) := by decide +kernel
theorem dX8_findGuesses_132 : decode cX8_findGuesses 132 = .ok (.iadd, 1) := by decide +kernel
theorem dX8_findGuesses_133 : decode cX8_findGuesses 133 = .ok (.iastore, 1) := by decide +kernel
theorem dX8_findGuesses_134 : decode cX8_findGuesses 134 = .ok (.aload_n 0, 1) := by decide +kernel
theorem dX8_findGuesses_135 : decode cX8_findGuesses 135 = .ok (.dup, 1) := by decide +kernel
theorem dX8_findGuesses_136 : decode cX8_findGuesses 136 = .ok (.getfield 181, 3) := by decide +kernel
theorem dX8_findGuesses_139 : decode cX8_findGuesses 139 = .ok (.iconst 1, 1) := by decide +kernel
theorem dX8_findGuesses_140 : decode cX8_findGuesses 140 = .ok (.iadd, 1) := by decide +kernel
theorem dX8_findGuesses_141 : decode cX8_findGuesses 141 = .ok (.putfield 181, 3) := by decide +kernel
theorem dX8_findGuesses_144 : decode cX8_findGuesses 144 = .ok (.iinc 6 1, 3) := by decide +kernel
theorem dX8_findGuesses_147 : decode cX8_findGuesses 147 = .ok (.goto (-105), 3) := by decide +kernel
theorem dX8_findGuesses_150 : decode cX8_findGuesses 150 = .ok (.iinc 5 1, 3) := by decide +kernel
theorem dX8_findGuesses_153 : decode cX8_findGuesses 153 = .ok (.goto (-125), 3) := by decide +kernel
theorem dX8_findGuesses_156 : decode cX8_findGuesses 156 = .ok (.iinc 4 1, 3) := by decide +kernel
theorem dX8_findGuesses_159 : decode cX8_findGuesses 159 = .ok (.goto (-141), 3) := by decide +kernel
theorem dX8_findGuesses_162 : decode cX8_findGuesses 162 = .ok (.return_, 1) := by decide +kernel
theorem dX8_guesses_0 : decode cX8_guesses 0 = .ok (.aload_n 0, 1) := by decide +kernel
theorem dX8_guesses_1 : decode cX8_guesses 1 = .ok (.iload_n 1, 1) := by decide +kernel
theorem dX8_guesses_2 : decode cX8_guesses 2 = .ok (.iload_n 2, 1) := by decide +kernel
theorem dX8_guesses_3 : decode cX8_guesses 3 = .ok (.invokevirtual 138, 3) := by decide +kernel
theorem dX8_guesses_6 : decode cX8_guesses 6 = .ok (.ifCond .eq 5, 3) := by decide +kernel
theorem dX8_guesses_9 : decode cX8_guesses 9 = .ok (.iconst (-1), 1) := by decide +kernel
theorem dX8_guesses_10 : decode cX8_guesses 10 = .ok (.ireturn, 1) := by decide +kernel
theorem dX8_guesses_11 : decode cX8_guesses 11 = .ok (.aload_n 0, 1) := by decide +kernel
theorem dX8_guesses_12 : decode cX8_guesses 12 = .ok (.iload_n 1, 1) := by decide +kernel
theorem dX8_guesses_13 : decode cX8_guesses 13 = .ok (.iload_n 2, 1) := by decide +kernel
theorem dX8_guesses_14 : decode cX8_guesses 14 = .ok (.iconst 1, 1) := by decide +kernel
theorem dX8_guesses_15 : decode cX8_guesses 15 = .ok (.invokevirtual 187, 3) := by decide +kernel
theorem dX8_guesses_18 : decode cX8_guesses 18 = .ok (.aload_n 0, 1) := by decide +kernel
theorem dX8_guesses_19 : decode cX8_guesses 19 = .ok (.getfield 181, 3) := by decide +kernel
theorem dX8_guesses_22 : decode cX8_guesses 22 = .ok (.ireturn, 1) := by decide +kernel
theorem dX8_guess_0 : decode cX8_guess 0 = .ok (.aload_n 0, 1) := by decide +kernel
theorem dX8_guess_1 : decode cX8_guess 1 = .ok (.iload_n 1, 1) := by decide +kernel
theorem dX8_guess_2 : decode cX8_guess 2 = .ok (.iload_n 2, 1) := by decide +kernel
theorem dX8_guess_3 : decode cX8_guess 3 = .ok (.invokevirtual 138, 3) := by decide +kernel
theorem dX8_guess_6 : decode cX8_guess 6 = .ok (.ifCond .eq 5, 3) := by decide +kernel
theorem dX8_guess_9 : decode cX8_guess 9 = .ok (.iconst (-1), 1) := by decide +kernel
theorem dX8_guess_10 : decode cX8_guess 10 = .ok (.ireturn, 1) := by decide +kernel
theorem dX8_guess_11 : decode cX8_guess 11 = .ok (.aload_n 0, 1) := by decide +kernel
theorem dX8_guess_12 : decode cX8_guess 12 = .ok (.iload_n 1, 1) := by decide +kernel
theorem dX8_guess_13 : decode cX8_guess 13 = .ok (.iload_n 2, 1) := by decide +kernel
theorem dX8_guess_14 : decode cX8_guess 14 = .ok (.iconst 1, 1) := by decide +kernel
theorem dX8_guess_15 : decode cX8_guess 15 = .ok (.invokevirtual 187, 3) := by decide +kernel
theorem dX8_guess_18 : decode cX8_guess 18 = .ok (.iload_n 3, 1) := by decide +kernel
theorem dX8_guess_19 : decode cX8_guess 19 = .ok (.iconst 0, 1) := by decide +kernel
theorem dX8_guess_20 : decode cX8_guess 20 = .ok (.aload_n 0, 1) := by decide +kernel
theorem dX8_guess_21 : decode cX8_guess 21 = .ok (.getfield 181, 3) := by decide +kernel
theorem dX8_guess_24 : decode cX8_guess 24 = .ok (.iconst 1, 1) := by decide +kernel
theorem dX8_guess_25 : decode cX8_guess 25 = .ok (.isub, 1) := by decide +kernel
theorem dX8_guess_26 : decode cX8_guess 26 = .ok (.invokestatic 115, 3) := by decide +kernel
theorem dX8_guess_29 : decode cX8_guess 29 = .ok (.ifCond .eq 12, 3) := by decide +kernel
theorem dX8_guess_32 : decode cX8_guess 32 = .ok (.aload_n 0, 1) := by decide +kernel
theorem dX8_guess_33 : decode cX8_guess 33 = .ok (.getfield 32, 3) := by decide +kernel
theorem dX8_guess_36 : decode cX8_guess 36 = .ok (.iload_n 3, 1) := by decide +kernel
theorem dX8_guess_37 : decode cX8_guess 37 = .ok (.iaload, 1) := by decide +kernel
theorem dX8_guess_38 : decode cX8_guess 38 = .ok (.goto 4, 3) := by decide +kernel
theorem dX8_guess_41 : decode cX8_guess 41 = .ok (.iconst (-1), 1) := by decide +kernel
theorem dX8_guess_42 : decode cX8_guess 42 = .ok (.ireturn, 1) := by decide +kernel
theorem dX8_noteHeld_0 : decode cX8_noteHeld 0 = .ok (.aload_n 0, 1) := by decide +kernel
theorem dX8_noteHeld_1 : decode cX8_noteHeld 1 = .ok (.iconst 0, 1) := by decide +kernel
theorem dX8_noteHeld_2 : decode cX8_noteHeld 2 = .ok (.putfield 191, 3) := by decide +kernel
theorem dX8_noteHeld_5 : decode cX8_noteHeld 5 = .ok (.iconst 0, 1) := by decide +kernel
theorem dX8_noteHeld_6 : decode cX8_noteHeld 6 = .ok (.istore_n 2, 1) := by decide +kernel
theorem dX8_noteHeld_7 : decode cX8_noteHeld 7 = .ok (.iload_n 2, 1) := by decide +kernel
theorem dX8_noteHeld_8 : decode cX8_noteHeld 8 = .ok (.iconst 3, 1) := by decide +kernel
theorem dX8_noteHeld_9 : decode cX8_noteHeld 9 = .ok (.if_icmp .ge 67, 3) := by decide +kernel
theorem dX8_noteHeld_12 : decode cX8_noteHeld 12 = .ok (.aload_n 0, 1) := by decide +kernel
theorem dX8_noteHeld_13 : decode cX8_noteHeld 13 = .ok (.iload_n 1, 1) := by decide +kernel
theorem dX8_noteHeld_14 : decode cX8_noteHeld 14 = .ok (.iload_n 2, 1) := by decide +kernel
theorem dX8_noteHeld_15 : decode cX8_noteHeld 15 = .ok (.iconst 0, 1) := by decide +kernel
theorem dX8_noteHeld_16 : decode cX8_noteHeld 16 = .ok (.invokevirtual 187, 3) := by decide +kernel
theorem dX8_noteHeld_19 : decode cX8_noteHeld 19 = .ok (.iconst 0, 1) := by decide +kernel
theorem dX8_noteHeld_20 : decode cX8_noteHeld 20 = .ok (.istore_n 3, 1) := by decide +kernel
theorem dX8_noteHeld_21 : decode cX8_noteHeld 21 = .ok (.iload_n 3, 1) := by decide +kernel
theorem dX8_noteHeld_22 : decode cX8_noteHeld 22 = .ok (.aload_n 0, 1) := by decide +kernel
theorem dX8_noteHeld_23 : decode cX8_noteHeld 23 = .ok (.getfield 181, 3) := by decide +kernel
theorem dX8_noteHeld_26 : decode cX8_noteHeld 26 = .ok (.if_icmp .ge 44, 3) := by decide +kernel
theorem dX8_noteHeld_29 : decode cX8_noteHeld 29 = .ok (.aload_n 0, 1) := by decide +kernel
theorem dX8_noteHeld_30 : decode cX8_noteHeld 30 = .ok (.getfield 35, 3) := by decide +kernel
theorem dX8_noteHeld_33 : decode cX8_noteHeld 33 = .ok (.aload_n 0, 1) := by decide +kernel
theorem dX8_noteHeld_34 : decode cX8_noteHeld 34 = .ok (.getfield 191, 3) := by decide +kernel
theorem dX8_noteHeld_37 : decode cX8_noteHeld 37 = .ok (.iload_n 2, 1) := by decide +kernel
theorem dX8_noteHeld_38 : decode cX8_noteHeld 38 = .ok (.iastore, 1) := by decide +kernel
theorem dX8_noteHeld_39 : decode cX8_noteHeld 39 = .ok (.aload_n 0, 1) := by decide +kernel
theorem dX8_noteHeld_40 : decode cX8_noteHeld 40 = .ok (.getfield 38, 3) := by decide +kernel
theorem dX8_noteHeld_43 : decode cX8_noteHeld 43 = .ok (.aload_n 0, 1) := by decide +kernel
theorem dX8_noteHeld_44 : decode cX8_noteHeld 44 = .ok (.getfield 191, 3) := by decide +kernel
theorem dX8_noteHeld_47 : decode cX8_noteHeld 47 = .ok (.aload_n 0, 1) := by decide +kernel
theorem dX8_noteHeld_48 : decode cX8_noteHeld 48 = .ok (.getfield 32, 3) := by decide +kernel
theorem dX8_noteHeld_51 : decode cX8_noteHeld 51 = .ok (.iload_n 3, 1) := by decide +kernel
theorem dX8_noteHeld_52 : decode cX8_noteHeld 52 = .ok (.iaload, 1) := by decide +kernel
theorem dX8_noteHeld_53 : decode cX8_noteHeld 53 = .ok (.iastore, 1) := by decide +kernel
theorem dX8_noteHeld_54 : decode cX8_noteHeld 54 = .ok (.aload_n 0, 1) := by decide +kernel
theorem dX8_noteHeld_55 : decode cX8_noteHeld 55 = .ok (.dup, 1) := by decide +kernel
theorem dX8_noteHeld_56 : decode cX8_noteHeld 56 = .ok (.getfield 191, 3) := by decide +kernel
theorem dX8_noteHeld_59 : decode cX8_noteHeld 59 = .ok (.iconst 1, 1) := by decide +kernel
theorem dX8_noteHeld_60 : decode cX8_noteHeld 60 = .ok (.iadd, 1) := by decide +kernel
theorem dX8_noteHeld_61 : decode cX8_noteHeld 61 = .ok (.putfield 191, 3) := by decide +kernel
theorem dX8_noteHeld_64 : decode cX8_noteHeld 64 = .ok (.iinc 3 1, 3) := by decide +kernel
theorem dX8_noteHeld_67 : decode cX8_noteHeld 67 = .ok (.goto (-46), 3) := by decide +kernel
theorem dX8_noteHeld_70 : decode cX8_noteHeld 70 = .ok (.iinc 2 1, 3) := by decide +kernel
theorem dX8_noteHeld_73 : decode cX8_noteHeld 73 = .ok (.goto (-66), 3) := by decide +kernel
theorem dX8_noteHeld_76 : decode cX8_noteHeld 76 = .ok (.return_, 1) := by decide +kernel
theorem dX8_readRow_0 : decode cX8_readRow 0 = .ok (.aload_n 0, 1) := by decide +kernel
theorem dX8_readRow_1 : decode cX8_readRow 1 = .ok (.iload_n 1, 1) := by decide +kernel
theorem dX8_readRow_2 : decode cX8_readRow 2 = .ok (.invokevirtual 194, 3) := by decide +kernel
theorem dX8_readRow_5 : decode cX8_readRow 5 = .ok (.sipush 160, 3) := by decide +kernel
theorem dX8_readRow_8 : decode cX8_readRow 8 = .ok (.iload_n 1, 1) := by decide +kernel
theorem dX8_readRow_9 : decode cX8_readRow 9 = .ok (.imul, 1) := by decide +kernel
theorem dX8_readRow_10 : decode cX8_readRow 10 = .ok (.iconst 4, 1) := by decide +kernel
theorem dX8_readRow_11 : decode cX8_readRow 11 = .ok (.aload_n 0, 1) := by decide +kernel
theorem dX8_readRow_12 : decode cX8_readRow 12 = .ok (.getfield 13, 3) := by decide +kernel
theorem dX8_readRow_15 : decode cX8_readRow 15 = .ok (.iload_n 1, 1) := by decide +kernel
theorem dX8_readRow_16 : decode cX8_readRow 16 = .ok (.iaload, 1) := by decide +kernel
theorem dX8_readRow_17 : decode cX8_readRow 17 = .ok (.imul, 1) := by decide +kernel
theorem dX8_readRow_18 : decode cX8_readRow 18 = .ok (.iadd, 1) := by decide +kernel
theorem dX8_readRow_19 : decode cX8_readRow 19 = .ok (.istore 6, 2) := by decide +kernel
theorem dX8_readRow_21 : decode cX8_readRow 21 = .ok (.aload_n 0, 1) := by decide +kernel
theorem dX8_readRow_22 : decode cX8_readRow 22 = .ok (.getfield 26, 3) := by decide +kernel
theorem dX8_readRow_25 : decode cX8_readRow 25 = .ok (.iload 6, 2) := by decide +kernel
theorem dX8_readRow_27 : decode cX8_readRow 27 = .ok (.iload_n 2, 1) := by decide +kernel
theorem dX8_readRow_28 : decode cX8_readRow 28 = .ok (.iastore, 1) := by decide +kernel
theorem dX8_readRow_29 : decode cX8_readRow 29 = .ok (.aload_n 0, 1) := by decide +kernel
theorem dX8_readRow_30 : decode cX8_readRow 30 = .ok (.getfield 26, 3) := by decide +kernel
theorem dX8_readRow_33 : decode cX8_readRow 33 = .ok (.iload 6, 2) := by decide +kernel
theorem dX8_readRow_35 : decode cX8_readRow 35 = .ok (.iconst 1, 1) := by decide +kernel
theorem dX8_readRow_36 : decode cX8_readRow 36 = .ok (.iadd, 1) := by decide +kernel
theorem dX8_readRow_37 : decode cX8_readRow 37 = .ok (.iload_n 3, 1) := by decide +kernel
theorem dX8_readRow_38 : decode cX8_readRow 38 = .ok (.iastore, 1) := by decide +kernel
theorem dX8_readRow_39 : decode cX8_readRow 39 = .ok (.aload_n 0, 1) := by decide +kernel
theorem dX8_readRow_40 : decode cX8_readRow 40 = .ok (.getfield 26, 3) := by decide +kernel
theorem dX8_readRow_43 : decode cX8_readRow 43 = .ok (.iload 6, 2) := by decide +kernel
theorem dX8_readRow_45 : decode cX8_readRow 45 = .ok (.iconst 2, 1) := by decide +kernel
theorem dX8_readRow_46 : decode cX8_readRow 46 = .ok (.iadd, 1) := by decide +kernel
theorem dX8_readRow_47 : decode cX8_readRow 47 = .ok (.iload 4, 2) := by decide +kernel
theorem dX8_readRow_49 : decode cX8_readRow 49 = .ok (.iastore, 1) := by decide +kernel
theorem dX8_readRow_50 : decode cX8_readRow 50 = .ok (.aload_n 0, 1) := by decide +kernel
theorem dX8_readRow_51 : decode cX8_readRow 51 = .ok (.getfield 26, 3) := by decide +kernel
theorem dX8_readRow_54 : decode cX8_readRow 54 = .ok (.iload 6, 2) := by decide +kernel
theorem dX8_readRow_56 : decode cX8_readRow 56 = .ok (.iconst 3, 1) := by decide +kernel
theorem dX8_readRow_57 : decode cX8_readRow 57 = .ok (.iadd, 1) := by decide +kernel
theorem dX8_readRow_58 : decode cX8_readRow 58 = .ok (.iload 5, 2) := by decide +kernel
theorem dX8_readRow_60 : decode cX8_readRow 60 = .ok (.iastore, 1) := by decide +kernel
theorem dX8_readRow_61 : decode cX8_readRow 61 = .ok (.aload_n 0, 1) := by decide +kernel
theorem dX8_readRow_62 : decode cX8_readRow 62 = .ok (.getfield 13, 3) := by decide +kernel
theorem dX8_readRow_65 : decode cX8_readRow 65 = .ok (.iload_n 1, 1) := by decide +kernel
theorem dX8_readRow_66 : decode cX8_readRow 66 = .ok (.dup2, 1) := by decide +kernel
theorem dX8_readRow_67 : decode cX8_readRow 67 = .ok (.iaload, 1) := by decide +kernel
theorem dX8_readRow_68 : decode cX8_readRow 68 = .ok (.iconst 1, 1) := by decide +kernel
theorem dX8_readRow_69 : decode cX8_readRow 69 = .ok (.iadd, 1) := by decide +kernel
theorem dX8_readRow_70 : decode cX8_readRow 70 = .ok (.iastore, 1) := by decide +kernel
theorem dX8_readRow_71 : decode cX8_readRow 71 = .ok (.aload_n 0, 1) := by decide +kernel
theorem dX8_readRow_72 : decode cX8_readRow 72 = .ok (.iconst 0, 1) := by decide +kernel
theorem dX8_readRow_73 : decode cX8_readRow 73 = .ok (.putfield 197, 3) := by decide +kernel
theorem dX8_readRow_76 : decode cX8_readRow 76 = .ok (.iconst 0, 1) := by decide +kernel
theorem dX8_readRow_77 : decode cX8_readRow 77 = .ok (.istore 7, 2) := by decide +kernel
theorem dX8_readRow_79 : decode cX8_readRow 79 = .ok (.iload 7, 2) := by decide +kernel
theorem dX8_readRow_81 : decode cX8_readRow 81 = .ok (.aload_n 0, 1) := by decide +kernel
theorem dX8_readRow_82 : decode cX8_readRow 82 = .ok (.getfield 191, 3) := by decide +kernel
theorem dX8_readRow_85 : decode cX8_readRow 85 = .ok (.if_icmp .ge 84, 3) := by decide +kernel
theorem dX8_readRow_88 : decode cX8_readRow 88 = .ok (.aload_n 0, 1) := by decide +kernel
theorem dX8_readRow_89 : decode cX8_readRow 89 = .ok (.getfield 38, 3) := by decide +kernel
theorem dX8_readRow_92 : decode cX8_readRow 92 = .ok (.iload 7, 2) := by decide +kernel
theorem dX8_readRow_94 : decode cX8_readRow 94 = .ok (.iaload, 1) := by decide +kernel
theorem dX8_readRow_95 : decode cX8_readRow 95 = .ok (.istore 8, 2) := by decide +kernel
theorem dX8_readRow_97 : decode cX8_readRow 97 = .ok (.aload_n 0, 1) := by decide +kernel
theorem dX8_readRow_98 : decode cX8_readRow 98 = .ok (.iload_n 1, 1) := by decide +kernel
theorem dX8_readRow_99 : decode cX8_readRow 99 = .ok (.aload_n 0, 1) := by decide +kernel
theorem dX8_readRow_100 : decode cX8_readRow 100 = .ok (.getfield 35, 3) := by decide +kernel
theorem dX8_readRow_103 : decode cX8_readRow 103 = .ok (.iload 7, 2) := by decide +kernel
theorem dX8_readRow_105 : decode cX8_readRow 105 = .ok (.iaload, 1) := by decide +kernel
theorem dX8_readRow_106 : decode cX8_readRow 106 = .ok (.iload 8, 2) := by decide +kernel
theorem dX8_readRow_108 : decode cX8_readRow 108 = .ok (.bipush 100, 2) := by decide +kernel
theorem dX8_readRow_110 : decode cX8_readRow 110 = .ok (.idiv, 1) := by decide +kernel
theorem dX8_readRow_111 : decode cX8_readRow 111 = .ok (.iload 8, 2) := by decide +kernel
theorem dX8_readRow_113 : decode cX8_readRow 113 = .ok (.bipush 10, 2) := by decide +kernel
theorem dX8_readRow_115 : decode cX8_readRow 115 = .ok (.idiv, 1) := by decide +kernel
theorem dX8_readRow_116 : decode cX8_readRow 116 = .ok (.bipush 10, 2) := by decide +kernel
theorem dX8_readRow_118 : decode cX8_readRow 118 = .ok (.irem, 1) := by decide +kernel
theorem dX8_readRow_119 : decode cX8_readRow 119 = .ok (.iload 8, 2) := by decide +kernel
theorem dX8_readRow_121 : decode cX8_readRow 121 = .ok (.bipush 10, 2) := by decide +kernel
theorem dX8_readRow_123 : decode cX8_readRow 123 = .ok (.irem, 1) := by decide +kernel
theorem dX8_readRow_124 : decode cX8_readRow 124 = .ok (.invokevirtual 174, 3) := by decide +kernel
theorem dX8_readRow_127 : decode cX8_readRow 127 = .ok (.ifCond .ne 36, 3) := by decide +kernel
theorem dX8_readRow_130 : decode cX8_readRow 130 = .ok (.aload_n 0, 1) := by decide +kernel
theorem dX8_readRow_131 : decode cX8_readRow 131 = .ok (.getfield 41, 3) := by decide +kernel
theorem dX8_readRow_134 : decode cX8_readRow 134 = .ok (.aload_n 0, 1) := by decide +kernel
theorem dX8_readRow_135 : decode cX8_readRow 135 = .ok (.getfield 197, 3) := by decide +kernel
theorem dX8_readRow_138 : decode cX8_readRow 138 = .ok (.sipush 1000, 3) := by decide +kernel
theorem dX8_readRow_141 : decode cX8_readRow 141 = .ok (.aload_n 0, 1) := by decide +kernel
theorem dX8_readRow_142 : decode cX8_readRow 142 = .ok (.getfield 35, 3) := by decide +kernel
theorem dX8_readRow_145 : decode cX8_readRow 145 = .ok (.iload 7, 2) := by decide +kernel
theorem dX8_readRow_147 : decode cX8_readRow 147 = .ok (.iaload, 1) := by decide +kernel
theorem dX8_readRow_148 : decode cX8_readRow 148 = .ok (.imul, 1) := by decide +kernel
theorem dX8_readRow_149 : decode cX8_readRow 149 = .ok (.iload 8, 2) := by decide +kernel
theorem dX8_readRow_151 : decode cX8_readRow 151 = .ok (.iadd, 1) := by decide +kernel
theorem dX8_readRow_152 : decode cX8_readRow 152 = .ok (.iastore, 1) := by decide +kernel
theorem dX8_readRow_153 : decode cX8_readRow 153 = .ok (.aload_n 0, 1) := by decide +kernel
theorem dX8_readRow_154 : decode cX8_readRow 154 = .ok (.dup, 1) := by decide +kernel
theorem dX8_readRow_155 : decode cX8_readRow 155 = .ok (.getfield 197, 3) := by decide +kernel
theorem dX8_readRow_158 : decode cX8_readRow 158 = .ok (.iconst 1, 1) := by decide +kernel
theorem dX8_readRow_159 : decode cX8_readRow 159 = .ok (.iadd, 1) := by decide +kernel
theorem dX8_readRow_160 : decode cX8_readRow 160 = .ok (.putfield 197, 3) := by decide +kernel
theorem dX8_readRow_163 : decode cX8_readRow 163 = .ok (.iinc 7 1, 3) := by decide +kernel
theorem dX8_readRow_166 : decode cX8_readRow 166 = .ok (.goto (-87), 3) := by decide +kernel
theorem dX8_readRow_169 : decode cX8_readRow 169 = .ok (.aload_n 0, 1) := by decide +kernel
theorem dX8_readRow_170 : decode cX8_readRow 170 = .ok (.getfield 197, 3) := by decide +kernel
theorem dX8_readRow_173 : decode cX8_readRow 173 = .ok (.ireturn, 1) := by decide +kernel
theorem dX8_areIn_0 : decode cX8_areIn 0 = .ok (.iload_n 2, 1) := by decide +kernel
theorem dX8_areIn_1 : decode cX8_areIn 1 = .ok (.bipush (-30), 2) := by decide +kernel
theorem dX8_areIn_3 : decode cX8_areIn 3 = .ok (.bipush 30, 2) := by decide +kernel
theorem dX8_areIn_5 : decode cX8_areIn 5 = .ok (.invokestatic 115, 3) := by decide +kernel
theorem dX8_areIn_8 : decode cX8_areIn 8 = .ok (.ifCond .eq 72, 3) := by decide +kernel
theorem dX8_areIn_11 : decode cX8_areIn 11 = .ok (.aload_n 0, 1) := by decide +kernel
theorem dX8_areIn_12 : decode cX8_areIn 12 = .ok (.getfield 7, 3) := by decide +kernel
theorem dX8_areIn_15 : decode cX8_areIn 15 = .ok (.iload_n 1, 1) := by decide +kernel
theorem dX8_areIn_16 : decode cX8_areIn 16 = .ok (.iaload, 1) := by decide +kernel
theorem dX8_areIn_17 : decode cX8_areIn 17 = .ok (.iconst 2, 1) := by decide +kernel
theorem dX8_areIn_18 : decode cX8_areIn 18 = .ok (.if_icmp .lt 14, 3) := by decide +kernel
theorem dX8_areIn_21 : decode cX8_areIn 21 = .ok (.iload_n 3, 1) := by decide +kernel
theorem dX8_areIn_22 : decode cX8_areIn 22 = .ok (.bipush (-30), 2) := by decide +kernel
theorem dX8_areIn_24 : decode cX8_areIn 24 = .ok (.bipush 30, 2) := by decide +kernel
theorem dX8_areIn_26 : decode cX8_areIn 26 = .ok (.invokestatic 115, 3) := by decide +kernel
theorem dX8_areIn_29 : decode cX8_areIn 29 = .ok (.ifCond .eq 51, 3) := by decide +kernel
theorem dX8_areIn_32 : decode cX8_areIn 32 = .ok (.aload_n 0, 1) := by decide +kernel
theorem dX8_areIn_33 : decode cX8_areIn 33 = .ok (.getfield 7, 3) := by decide +kernel
theorem dX8_areIn_36 : decode cX8_areIn 36 = .ok (.iload_n 1, 1) := by decide +kernel
theorem dX8_areIn_37 : decode cX8_areIn 37 = .ok (.iaload, 1) := by decide +kernel
theorem dX8_areIn_38 : decode cX8_areIn 38 = .ok (.iconst 3, 1) := by decide +kernel
theorem dX8_areIn_39 : decode cX8_areIn 39 = .ok (.if_icmp .lt 15, 3) := by decide +kernel
theorem dX8_areIn_42 : decode cX8_areIn 42 = .ok (.iload 4, 2) := by decide +kernel
theorem dX8_areIn_44 : decode cX8_areIn 44 = .ok (.bipush (-30), 2) := by decide +kernel
theorem dX8_areIn_46 : decode cX8_areIn 46 = .ok (.bipush 30, 2) := by decide +kernel
theorem dX8_areIn_48 : decode cX8_areIn 48 = .ok (.invokestatic 115, 3) := by decide +kernel
theorem dX8_areIn_51 : decode cX8_areIn 51 = .ok (.ifCond .eq 29, 3) := by decide +kernel
theorem dX8_areIn_54 : decode cX8_areIn 54 = .ok (.aload_n 0, 1) := by decide +kernel
theorem dX8_areIn_55 : decode cX8_areIn 55 = .ok (.getfield 7, 3) := by decide +kernel
theorem dX8_areIn_58 : decode cX8_areIn 58 = .ok (.iload_n 1, 1) := by decide +kernel
theorem dX8_areIn_59 : decode cX8_areIn 59 = .ok (.iaload, 1) := by decide +kernel
theorem dX8_areIn_60 : decode cX8_areIn 60 = .ok (.iconst 4, 1) := by decide +kernel
theorem dX8_areIn_61 : decode cX8_areIn 61 = .ok (.if_icmp .lt 15, 3) := by decide +kernel
theorem dX8_areIn_64 : decode cX8_areIn 64 = .ok (.iload 5, 2) := by decide +kernel
theorem dX8_areIn_66 : decode cX8_areIn 66 = .ok (.bipush (-30), 2) := by decide +kernel
theorem dX8_areIn_68 : decode cX8_areIn 68 = .ok (.bipush 30, 2) := by decide +kernel
theorem dX8_areIn_70 : decode cX8_areIn 70 = .ok (.invokestatic 115, 3) := by decide +kernel
theorem dX8_areIn_73 : decode cX8_areIn 73 = .ok (.ifCond .eq 7, 3) := by decide +kernel
theorem dX8_areIn_76 : decode cX8_areIn 76 = .ok (.iconst 1, 1) := by decide +kernel
theorem dX8_areIn_77 : decode cX8_areIn 77 = .ok (.goto 4, 3) := by decide +kernel
theorem dX8_areIn_80 : decode cX8_areIn 80 = .ok (.iconst 0, 1) := by decide +kernel
theorem dX8_areIn_81 : decode cX8_areIn 81 = .ok (.ireturn, 1) := by decide +kernel
theorem dX8_read_0 : decode cX8_read 0 = .ok (.aload_n 0, 1) := by decide +kernel
theorem dX8_read_1 : decode cX8_read 1 = .ok (.iload_n 1, 1) := by decide +kernel
theorem dX8_read_2 : decode cX8_read 2 = .ok (.invokevirtual 119, 3) := by decide +kernel
theorem dX8_read_5 : decode cX8_read 5 = .ok (.ifCond .eq 5, 3) := by decide +kernel
theorem dX8_read_8 : decode cX8_read 8 = .ok (.iconst (-1), 1) := by decide +kernel
theorem dX8_read_9 : decode cX8_read 9 = .ok (.ireturn, 1) := by decide +kernel
theorem dX8_read_10 : decode cX8_read 10 = .ok (.aload_n 0, 1) := by decide +kernel
theorem dX8_read_11 : decode cX8_read 11 = .ok (.iload_n 1, 1) := by decide +kernel
theorem dX8_read_12 : decode cX8_read 12 = .ok (.iload_n 2, 1) := by decide +kernel
theorem dX8_read_13 : decode cX8_read 13 = .ok (.iload_n 3, 1) := by decide +kernel
theorem dX8_read_14 : decode cX8_read 14 = .ok (.iload 4, 2) := by decide +kernel
theorem dX8_read_16 : decode cX8_read 16 = .ok (.iload 5, 2) := by decide +kernel
theorem dX8_read_18 : decode cX8_read 18 = .ok (.invokevirtual 200, 3) := by decide +kernel
theorem dX8_read_21 : decode cX8_read 21 = .ok (.ifCond .ne 6, 3) := by decide +kernel
theorem dX8_read_24 : decode cX8_read 24 = .ok (.bipush (-2), 2) := by decide +kernel
theorem dX8_read_26 : decode cX8_read 26 = .ok (.ireturn, 1) := by decide +kernel
theorem dX8_read_27 : decode cX8_read 27 = .ok (.aload_n 0, 1) := by decide +kernel
theorem dX8_read_28 : decode cX8_read 28 = .ok (.getfield 13, 3) := by decide +kernel
theorem dX8_read_31 : decode cX8_read 31 = .ok (.iload_n 1, 1) := by decide +kernel
theorem dX8_read_32 : decode cX8_read 32 = .ok (.iaload, 1) := by decide +kernel
theorem dX8_read_33 : decode cX8_read 33 = .ok (.bipush 40, 2) := by decide +kernel
theorem dX8_read_35 : decode cX8_read 35 = .ok (.if_icmp .ne 8, 3) := by decide +kernel
theorem dX8_read_38 : decode cX8_read 38 = .ok (.bipush (-4), 2) := by decide +kernel
theorem dX8_read_40 : decode cX8_read 40 = .ok (.goto 14, 3) := by decide +kernel
theorem dX8_read_43 : decode cX8_read 43 = .ok (.aload_n 0, 1) := by decide +kernel
theorem dX8_read_44 : decode cX8_read 44 = .ok (.iload_n 1, 1) := by decide +kernel
theorem dX8_read_45 : decode cX8_read 45 = .ok (.iload_n 2, 1) := by decide +kernel
theorem dX8_read_46 : decode cX8_read 46 = .ok (.iload_n 3, 1) := by decide +kernel
theorem dX8_read_47 : decode cX8_read 47 = .ok (.iload 4, 2) := by decide +kernel
theorem dX8_read_49 : decode cX8_read 49 = .ok (.iload 5, 2) := by decide +kernel
theorem dX8_read_51 : decode cX8_read 51 = .ok (.invokevirtual 203, 3) := by decide +kernel
theorem dX8_read_54 : decode cX8_read 54 = .ok (.ireturn, 1) := by decide +kernel
theorem dX8_died_0 : decode cX8_died 0 = .ok (.iload_n 1, 1) := by decide +kernel
theorem dX8_died_1 : decode cX8_died 1 = .ok (.iconst 0, 1) := by decide +kernel
theorem dX8_died_2 : decode cX8_died 2 = .ok (.aload_n 0, 1) := by decide +kernel
theorem dX8_died_3 : decode cX8_died 3 = .ok (.getfield 197, 3) := by decide +kernel
theorem dX8_died_6 : decode cX8_died 6 = .ok (.iconst 1, 1) := by decide +kernel
theorem dX8_died_7 : decode cX8_died 7 = .ok (.isub, 1) := by decide +kernel
theorem dX8_died_8 : decode cX8_died 8 = .ok (.invokestatic 115, 3) := by decide +kernel
theorem dX8_died_11 : decode cX8_died 11 = .ok (.ifCond .eq 12, 3) := by decide +kernel
theorem dX8_died_14 : decode cX8_died 14 = .ok (.aload_n 0, 1) := by decide +kernel
theorem dX8_died_15 : decode cX8_died 15 = .ok (.getfield 41, 3) := by decide +kernel
theorem dX8_died_18 : decode cX8_died 18 = .ok (.iload_n 1, 1) := by decide +kernel
theorem dX8_died_19 : decode cX8_died 19 = .ok (.iaload, 1) := by decide +kernel
theorem dX8_died_20 : decode cX8_died 20 = .ok (.goto 4, 3) := by decide +kernel
theorem dX8_died_23 : decode cX8_died 23 = .ok (.iconst (-1), 1) := by decide +kernel
theorem dX8_died_24 : decode cX8_died 24 = .ok (.ireturn, 1) := by decide +kernel
theorem dX8_bring_0 : decode cX8_bring 0 = .ok (.aload_n 0, 1) := by decide +kernel
theorem dX8_bring_1 : decode cX8_bring 1 = .ok (.iconst 0, 1) := by decide +kernel
theorem dX8_bring_2 : decode cX8_bring 2 = .ok (.putfield 207, 3) := by decide +kernel
theorem dX8_bring_5 : decode cX8_bring 5 = .ok (.aload_n 0, 1) := by decide +kernel
theorem dX8_bring_6 : decode cX8_bring 6 = .ok (.lconst 1, 1) := by decide +kernel
theorem dX8_bring_7 : decode cX8_bring 7 = .ok (.putfield 210, 3) := by decide +kernel
theorem dX8_bring_10 : decode cX8_bring 10 = .ok (.iconst 0, 1) := by decide +kernel
theorem dX8_bring_11 : decode cX8_bring 11 = .ok (.istore_n 1, 1) := by decide +kernel
theorem dX8_bring_12 : decode cX8_bring 12 = .ok (.iload_n 1, 1) := by decide +kernel
theorem dX8_bring_13 : decode cX8_bring 13 = .ok (.aload_n 0, 1) := by decide +kernel
theorem dX8_bring_14 : decode cX8_bring 14 = .ok (.getfield 214, 3) := by decide +kernel
theorem dX8_bring_17 : decode cX8_bring 17 = .ok (.if_icmp .ge 220, 3) := by decide +kernel
theorem dX8_bring_20 : decode cX8_bring 20 = .ok (.aload_n 0, 1) := by decide +kernel
theorem dX8_bring_21 : decode cX8_bring 21 = .ok (.getfield 51, 3) := by decide +kernel
theorem dX8_bring_24 : decode cX8_bring 24 = .ok (.iload_n 1, 1) := by decide +kernel
theorem dX8_bring_25 : decode cX8_bring 25 = .ok (.iconst 1, 1) := by decide +kernel
theorem dX8_bring_26 : decode cX8_bring 26 = .ok (.bastore, 1) := by decide +kernel
theorem dX8_bring_27 : decode cX8_bring 27 = .ok (.aload_n 0, 1) := by decide +kernel
theorem dX8_bring_28 : decode cX8_bring 28 = .ok (.getfield 207, 3) := by decide +kernel
theorem dX8_bring_31 : decode cX8_bring 31 = .ok (.istore_n 2, 1) := by decide +kernel
theorem dX8_bring_32 : decode cX8_bring 32 = .ok (.iload_n 2, 1) := by decide +kernel
theorem dX8_bring_33 : decode cX8_bring 33 = .ok (.aload_n 0, 1) := by decide +kernel
theorem dX8_bring_34 : decode cX8_bring 34 = .ok (.getfield 217, 3) := by decide +kernel
theorem dX8_bring_37 : decode cX8_bring 37 = .ok (.if_icmp .ge 24, 3) := by decide +kernel
theorem dX8_bring_40 : decode cX8_bring 40 = .ok (.aload_n 0, 1) := by decide +kernel
theorem dX8_bring_41 : decode cX8_bring 41 = .ok (.getfield 44, 3) := by decide +kernel
theorem dX8_bring_44 : decode cX8_bring 44 = .ok (.iconst 5, 1) := by decide +kernel
theorem dX8_bring_45 : decode cX8_bring 45 = .ok (.iload_n 2, 1) := by decide +kernel
theorem dX8_bring_46 : decode cX8_bring 46 = .ok (.imul, 1) := by decide +kernel
theorem dX8_bring_47 : decode cX8_bring 47 = .ok (.iload_n 1, 1) := by decide +kernel
theorem dX8_bring_48 : decode cX8_bring 48 = .ok (.iadd, 1) := by decide +kernel
theorem dX8_bring_49 : decode cX8_bring 49 = .ok (.laload, 1) := by decide +kernel
theorem dX8_bring_50 : decode cX8_bring 50 = .ok (.lconst 0, 1) := by decide +kernel
theorem dX8_bring_51 : decode cX8_bring 51 = .ok (.lcmp, 1) := by decide +kernel
theorem dX8_bring_52 : decode cX8_bring 52 = .ok (.ifCond .ne 9, 3) := by decide +kernel
theorem dX8_bring_55 : decode cX8_bring 55 = .ok (.iinc 2 1, 3) := by decide +kernel
theorem dX8_bring_58 : decode cX8_bring 58 = .ok (.goto (-26), 3) := by decide +kernel
theorem dX8_bring_61 : decode cX8_bring 61 = .ok (.iload_n 2, 1) := by decide +kernel
theorem dX8_bring_62 : decode cX8_bring 62 = .ok (.aload_n 0, 1) := by decide +kernel
theorem dX8_bring_63 : decode cX8_bring 63 = .ok (.getfield 217, 3) := by decide +kernel
theorem dX8_bring_66 : decode cX8_bring 66 = .ok (.if_icmp .ge 165, 3) := by decide +kernel
theorem dX8_bring_69 : decode cX8_bring 69 = .ok (.aload_n 0, 1) := by decide +kernel
theorem dX8_bring_70 : decode cX8_bring 70 = .ok (.getfield 51, 3) := by decide +kernel
theorem dX8_bring_73 : decode cX8_bring 73 = .ok (.iload_n 1, 1) := by decide +kernel
theorem dX8_bring_74 : decode cX8_bring 74 = .ok (.iconst 0, 1) := by decide +kernel
theorem dX8_bring_75 : decode cX8_bring 75 = .ok (.bastore, 1) := by decide +kernel
theorem dX8_bring_76 : decode cX8_bring 76 = .ok (.aload_n 0, 1) := by decide +kernel
theorem dX8_bring_77 : decode cX8_bring 77 = .ok (.iload_n 2, 1) := by decide +kernel
theorem dX8_bring_78 : decode cX8_bring 78 = .ok (.aload_n 0, 1) := by decide +kernel
theorem dX8_bring_79 : decode cX8_bring 79 = .ok (.getfield 207, 3) := by decide +kernel
theorem dX8_bring_82 : decode cX8_bring 82 = .ok (.invokevirtual 220, 3) := by decide +kernel
theorem dX8_bring_85 : decode cX8_bring 85 = .ok (.aload_n 0, 1) := by decide +kernel
theorem dX8_bring_86 : decode cX8_bring 86 = .ok (.getfield 44, 3) := by decide +kernel
theorem dX8_bring_89 : decode cX8_bring 89 = .ok (.iconst 5, 1) := by decide +kernel
theorem dX8_bring_90 : decode cX8_bring 90 = .ok (.aload_n 0, 1) := by decide +kernel
theorem dX8_bring_91 : decode cX8_bring 91 = .ok (.getfield 207, 3) := by decide +kernel
theorem dX8_bring_94 : decode cX8_bring 94 = .ok (.imul, 1) := by decide +kernel
theorem dX8_bring_95 : decode cX8_bring 95 = .ok (.iload_n 1, 1) := by decide +kernel
theorem dX8_bring_96 : decode cX8_bring 96 = .ok (.iadd, 1) := by decide +kernel
theorem dX8_bring_97 : decode cX8_bring 97 = .ok (.laload, 1) := by decide +kernel
theorem dX8_bring_98 : decode cX8_bring 98 = .ok (.lstore_n 3, 1) := by decide +kernel
theorem dX8_bring_99 : decode cX8_bring 99 = .ok (.iconst 0, 1) := by decide +kernel
theorem dX8_bring_100 : decode cX8_bring 100 = .ok (.istore 5, 2) := by decide +kernel
theorem dX8_bring_102 : decode cX8_bring 102 = .ok (.iload 5, 2) := by decide +kernel
theorem dX8_bring_104 : decode cX8_bring 104 = .ok (.aload_n 0, 1) := by decide +kernel
theorem dX8_bring_105 : decode cX8_bring 105 = .ok (.getfield 217, 3) := by decide +kernel
theorem dX8_bring_108 : decode cX8_bring 108 = .ok (.if_icmp .ge 98, 3) := by decide +kernel
theorem dX8_bring_111 : decode cX8_bring 111 = .ok (.iload 5, 2) := by decide +kernel
theorem dX8_bring_113 : decode cX8_bring 113 = .ok (.aload_n 0, 1) := by decide +kernel
theorem dX8_bring_114 : decode cX8_bring 114 = .ok (.getfield 207, 3) := by decide +kernel
theorem dX8_bring_117 : decode cX8_bring 117 = .ok (.if_icmp .eq 83, 3) := by decide +kernel
theorem dX8_bring_120 : decode cX8_bring 120 = .ok (.aload_n 0, 1) := by decide +kernel
theorem dX8_bring_121 : decode cX8_bring 121 = .ok (.getfield 44, 3) := by decide +kernel
theorem dX8_bring_124 : decode cX8_bring 124 = .ok (.iconst 5, 1) := by decide +kernel
theorem dX8_bring_125 : decode cX8_bring 125 = .ok (.iload 5, 2) := by decide +kernel
theorem dX8_bring_127 : decode cX8_bring 127 = .ok (.imul, 1) := by decide +kernel
theorem dX8_bring_128 : decode cX8_bring 128 = .ok (.iload_n 1, 1) := by decide +kernel
theorem dX8_bring_129 : decode cX8_bring 129 = .ok (.iadd, 1) := by decide +kernel
theorem dX8_bring_130 : decode cX8_bring 130 = .ok (.laload, 1) := by decide +kernel
theorem dX8_bring_131 : decode cX8_bring 131 = .ok (.lstore 6, 2) := by decide +kernel
theorem dX8_bring_133 : decode cX8_bring 133 = .ok (.iconst 0, 1) := by decide +kernel
theorem dX8_bring_134 : decode cX8_bring 134 = .ok (.istore 8, 2) := by decide +kernel
theorem dX8_bring_136 : decode cX8_bring 136 = .ok (.iload 8, 2) := by decide +kernel
theorem dX8_bring_138 : decode cX8_bring 138 = .ok (.aload_n 0, 1) := by decide +kernel
theorem dX8_bring_139 : decode cX8_bring 139 = .ok (.getfield 214, 3) := by decide +kernel
theorem dX8_bring_142 : decode cX8_bring 142 = .ok (.if_icmp .ge 58, 3) := by decide +kernel
theorem dX8_bring_145 : decode cX8_bring 145 = .ok (.aload_n 0, 1) := by decide +kernel
theorem dX8_bring_146 : decode cX8_bring 146 = .ok (.getfield 44, 3) := by decide +kernel
theorem dX8_bring_149 : decode cX8_bring 149 = .ok (.iconst 5, 1) := by decide +kernel
theorem dX8_bring_150 : decode cX8_bring 150 = .ok (.iload 5, 2) := by decide +kernel
theorem dX8_bring_152 : decode cX8_bring 152 = .ok (.imul, 1) := by decide +kernel
theorem dX8_bring_153 : decode cX8_bring 153 = .ok (.iload 8, 2) := by decide +kernel
theorem dX8_bring_155 : decode cX8_bring 155 = .ok (.iadd, 1) := by decide +kernel
theorem dX8_bring_156 : decode cX8_bring 156 = .ok (.lload_n 3, 1) := by decide +kernel
theorem dX8_bring_157 : decode cX8_bring 157 = .ok (.aload_n 0, 1) := by decide +kernel
theorem dX8_bring_158 : decode cX8_bring 158 = .ok (.getfield 44, 3) := by decide +kernel
theorem dX8_bring_161 : decode cX8_bring 161 = .ok (.iconst 5, 1) := by decide +kernel
theorem dX8_bring_162 : decode cX8_bring 162 = .ok (.iload 5, 2) := by decide +kernel
theorem dX8_bring_164 : decode cX8_bring 164 = .ok (.imul, 1) := by decide +kernel
theorem dX8_bring_165 : decode cX8_bring 165 = .ok (.iload 8, 2) := by decide +kernel
theorem dX8_bring_167 : decode cX8_bring 167 = .ok (.iadd, 1) := by decide +kernel
theorem dX8_bring_168 : decode cX8_bring 168 = .ok (.laload, 1) := by decide +kernel
theorem dX8_bring_169 : decode cX8_bring 169 = .ok (.lmul, 1) := by decide +kernel
theorem dX8_bring_170 : decode cX8_bring 170 = .ok (.lload 6, 2) := by decide +kernel
theorem dX8_bring_172 : decode cX8_bring 172 = .ok (.aload_n 0, 1) := by decide +kernel
theorem dX8_bring_173 : decode cX8_bring 173 = .ok (.getfield 44, 3) := by decide +kernel
theorem dX8_bring_176 : decode cX8_bring 176 = .ok (.iconst 5, 1) := by decide +kernel
theorem dX8_bring_177 : decode cX8_bring 177 = .ok (.aload_n 0, 1) := by decide +kernel
theorem dX8_bring_178 : decode cX8_bring 178 = .ok (.getfield 207, 3) := by decide +kernel
theorem dX8_bring_181 : decode cX8_bring 181 = .ok (.imul, 1) := by decide +kernel
theorem dX8_bring_182 : decode cX8_bring 182 = .ok (.iload 8, 2) := by decide +kernel
theorem dX8_bring_184 : decode cX8_bring 184 = .ok (.iadd, 1) := by decide +kernel
theorem dX8_bring_185 : decode cX8_bring 185 = .ok (.laload, 1) := by decide +kernel
theorem dX8_bring_186 : decode cX8_bring 186 = .ok (.lmul, 1) := by decide +kernel
theorem dX8_bring_187 : decode cX8_bring 187 = .ok (.lsub, 1) := by decide +kernel
theorem dX8_bring_188 : decode cX8_bring 188 = .ok (.aload_n 0, 1) := by decide +kernel
theorem dX8_bring_189 : decode cX8_bring 189 = .ok (.getfield 210, 3) := by decide +kernel
theorem dX8_bring_192 : decode cX8_bring 192 = .ok (.ldiv, 1) := by decide +kernel
theorem dX8_bring_193 : decode cX8_bring 193 = .ok (.lastore, 1) := by decide +kernel
theorem dX8_bring_194 : decode cX8_bring 194 = .ok (.iinc 8 1, 3) := by decide +kernel
theorem dX8_bring_197 : decode cX8_bring 197 = .ok (.goto (-61), 3) := by decide +kernel
theorem dX8_bring_200 : decode cX8_bring 200 = .ok (.iinc 5 1, 3) := by decide +kernel
theorem dX8_bring_203 : decode cX8_bring 203 = .ok (.goto (-101), 3) := by decide +kernel
theorem dX8_bring_206 : decode cX8_bring 206 = .ok (.aload_n 0, 1) := by decide +kernel
theorem dX8_bring_207 : decode cX8_bring 207 = .ok (.lload_n 3, 1) := by decide +kernel
theorem dX8_bring_208 : decode cX8_bring 208 = .ok (.putfield 210, 3) := by decide +kernel
theorem dX8_bring_211 : decode cX8_bring 211 = .ok (.aload_n 0, 1) := by decide +kernel
theorem dX8_bring_212 : decode cX8_bring 212 = .ok (.getfield 48, 3) := by decide +kernel
theorem dX8_bring_215 : decode cX8_bring 215 = .ok (.aload_n 0, 1) := by decide +kernel
theorem dX8_bring_216 : decode cX8_bring 216 = .ok (.getfield 207, 3) := by decide +kernel
theorem dX8_bring_219 : decode cX8_bring 219 = .ok (.iload_n 1, 1) := by decide +kernel
theorem dX8_bring_220 : decode cX8_bring 220 = .ok (.iastore, 1) := by decide +kernel
theorem dX8_bring_221 : decode cX8_bring 221 = .ok (.aload_n 0, 1) := by decide +kernel
theorem dX8_bring_222 : decode cX8_bring 222 = .ok (.dup, 1) := by decide +kernel
theorem dX8_bring_223 : decode cX8_bring 223 = .ok (.getfield 207, 3) := by decide +kernel
theorem dX8_bring_226 : decode cX8_bring 226 = .ok (.iconst 1, 1) := by decide +kernel
theorem dX8_bring_227 : decode cX8_bring 227 = .ok (.iadd, 1) := by decide +kernel
theorem dX8_bring_228 : decode cX8_bring 228 = .ok (.putfield 207, 3) := by decide +kernel
theorem dX8_bring_231 : decode cX8_bring 231 = .ok (.iinc 1 1, 3) := by decide +kernel
theorem dX8_bring_234 : decode cX8_bring 234 = .ok (.goto (-222), 3) := by decide +kernel
theorem dX8_bring_237 : decode cX8_bring 237 = .ok (.return_, 1) := by decide +kernel
theorem dX8_exchange_0 : decode cX8_exchange 0 = .ok (.iconst 0, 1) := by decide +kernel
theorem dX8_exchange_1 : decode cX8_exchange 1 = .ok (.istore_n 3, 1) := by decide +kernel
theorem dX8_exchange_2 : decode cX8_exchange 2 = .ok (.iload_n 3, 1) := by decide +kernel
theorem dX8_exchange_3 : decode cX8_exchange 3 = .ok (.aload_n 0, 1) := by decide +kernel
theorem dX8_exchange_4 : decode cX8_exchange 4 = .ok (.getfield 214, 3) := by decide +kernel
theorem dX8_exchange_7 : decode cX8_exchange 7 = .ok (.if_icmp .ge 53, 3) := by decide +kernel
theorem dX8_exchange_10 : decode cX8_exchange 10 = .ok (.aload_n 0, 1) := by decide +kernel
theorem dX8_exchange_11 : decode cX8_exchange 11 = .ok (.getfield 44, 3) := by decide +kernel
theorem dX8_exchange_14 : decode cX8_exchange 14 = .ok (.iconst 5, 1) := by decide +kernel
theorem dX8_exchange_15 : decode cX8_exchange 15 = .ok (.iload_n 1, 1) := by decide +kernel
theorem dX8_exchange_16 : decode cX8_exchange 16 = .ok (.imul, 1) := by decide +kernel
theorem dX8_exchange_17 : decode cX8_exchange 17 = .ok (.iload_n 3, 1) := by decide +kernel
theorem dX8_exchange_18 : decode cX8_exchange 18 = .ok (.iadd, 1) := by decide +kernel
theorem dX8_exchange_19 : decode cX8_exchange 19 = .ok (.laload, 1) := by decide +kernel
theorem dX8_exchange_20 : decode cX8_exchange 20 = .ok (.lstore 4, 2) := by decide +kernel
theorem dX8_exchange_22 : decode cX8_exchange 22 = .ok (.aload_n 0, 1) := by decide +kernel
theorem dX8_exchange_23 : decode cX8_exchange 23 = .ok (.getfield 44, 3) := by decide +kernel
theorem dX8_exchange_26 : decode cX8_exchange 26 = .ok (.iconst 5, 1) := by decide +kernel
theorem dX8_exchange_27 : decode cX8_exchange 27 = .ok (.iload_n 1, 1) := by decide +kernel
theorem dX8_exchange_28 : decode cX8_exchange 28 = .ok (.imul, 1) := by decide +kernel
theorem dX8_exchange_29 : decode cX8_exchange 29 = .ok (.iload_n 3, 1) := by decide +kernel
theorem dX8_exchange_30 : decode cX8_exchange 30 = .ok (.iadd, 1) := by decide +kernel
theorem dX8_exchange_31 : decode cX8_exchange 31 = .ok (.aload_n 0, 1) := by decide +kernel
theorem dX8_exchange_32 : decode cX8_exchange 32 = .ok (.getfield 44, 3) := by decide +kernel
theorem dX8_exchange_35 : decode cX8_exchange 35 = .ok (.iconst 5, 1) := by decide +kernel
theorem dX8_exchange_36 : decode cX8_exchange 36 = .ok (.iload_n 2, 1) := by decide +kernel
theorem dX8_exchange_37 : decode cX8_exchange 37 = .ok (.imul, 1) := by decide +kernel
theorem dX8_exchange_38 : decode cX8_exchange 38 = .ok (.iload_n 3, 1) := by decide +kernel
theorem dX8_exchange_39 : decode cX8_exchange 39 = .ok (.iadd, 1) := by decide +kernel
theorem dX8_exchange_40 : decode cX8_exchange 40 = .ok (.laload, 1) := by decide +kernel
theorem dX8_exchange_41 : decode cX8_exchange 41 = .ok (.lastore, 1) := by decide +kernel
theorem dX8_exchange_42 : decode cX8_exchange 42 = .ok (.aload_n 0, 1) := by decide +kernel
theorem dX8_exchange_43 : decode cX8_exchange 43 = .ok (.getfield 44, 3) := by decide +kernel
theorem dX8_exchange_46 : decode cX8_exchange 46 = .ok (.iconst 5, 1) := by decide +kernel
theorem dX8_exchange_47 : decode cX8_exchange 47 = .ok (.iload_n 2, 1) := by decide +kernel
theorem dX8_exchange_48 : decode cX8_exchange 48 = .ok (.imul, 1) := by decide +kernel
theorem dX8_exchange_49 : decode cX8_exchange 49 = .ok (.iload_n 3, 1) := by decide +kernel
theorem dX8_exchange_50 : decode cX8_exchange 50 = .ok (.iadd, 1) := by decide +kernel
theorem dX8_exchange_51 : decode cX8_exchange 51 = .ok (.lload 4, 2) := by decide +kernel
theorem dX8_exchange_53 : decode cX8_exchange 53 = .ok (.lastore, 1) := by decide +kernel
theorem dX8_exchange_54 : decode cX8_exchange 54 = .ok (.iinc 3 1, 3) := by decide +kernel
theorem dX8_exchange_57 : decode cX8_exchange 57 = .ok (.goto (-55), 3) := by decide +kernel
theorem dX8_exchange_60 : decode cX8_exchange 60 = .ok (.return_, 1) := by decide +kernel
theorem dX8_layTable_0 : decode cX8_layTable 0 = .ok (.aload_n 0, 1) := by decide +kernel
theorem dX8_layTable_1 : decode cX8_layTable 1 = .ok (.iconst 0, 1) := by decide +kernel
theorem dX8_layTable_2 : decode cX8_layTable 2 = .ok (.putfield 217, 3) := by decide +kernel
theorem dX8_layTable_5 : decode cX8_layTable 5 = .ok (.aload_n 0, 1) := by decide +kernel
theorem dX8_layTable_6 : decode cX8_layTable 6 = .ok (.aload_n 0, 1) := by decide +kernel
theorem dX8_layTable_7 : decode cX8_layTable 7 = .ok (.getfield 7, 3) := by decide +kernel
theorem dX8_layTable_10 : decode cX8_layTable 10 = .ok (.iload_n 1, 1) := by decide +kernel
theorem dX8_layTable_11 : decode cX8_layTable 11 = .ok (.iaload, 1) := by decide +kernel
theorem dX8_layTable_12 : decode cX8_layTable 12 = .ok (.iconst 1, 1) := by decide +kernel
theorem dX8_layTable_13 : decode cX8_layTable 13 = .ok (.iadd, 1) := by decide +kernel
theorem dX8_layTable_14 : decode cX8_layTable 14 = .ok (.putfield 214, 3) := by decide +kernel
theorem dX8_layTable_17 : decode cX8_layTable 17 = .ok (.iconst 0, 1) := by decide +kernel
theorem dX8_layTable_18 : decode cX8_layTable 18 = .ok (.istore_n 3, 1) := by decide +kernel
theorem dX8_layTable_19 : decode cX8_layTable 19 = .ok (.iload_n 3, 1) := by decide +kernel
theorem dX8_layTable_20 : decode cX8_layTable 20 = .ok (.aload_n 0, 1) := by decide +kernel
theorem dX8_layTable_21 : decode cX8_layTable 21 = .ok (.getfield 13, 3) := by decide +kernel
theorem dX8_layTable_24 : decode cX8_layTable 24 = .ok (.iload_n 1, 1) := by decide +kernel
theorem dX8_layTable_25 : decode cX8_layTable 25 = .ok (.iaload, 1) := by decide +kernel
theorem dX8_layTable_26 : decode cX8_layTable 26 = .ok (.if_icmp .ge 91, 3) := by decide +kernel
theorem dX8_layTable_29 : decode cX8_layTable 29 = .ok (.aload_n 0, 1) := by decide +kernel
theorem dX8_layTable_30 : decode cX8_layTable 30 = .ok (.iload_n 1, 1) := by decide +kernel
theorem dX8_layTable_31 : decode cX8_layTable 31 = .ok (.iload_n 2, 1) := by decide +kernel
theorem dX8_layTable_32 : decode cX8_layTable 32 = .ok (.iload_n 3, 1) := by decide +kernel
theorem dX8_layTable_33 : decode cX8_layTable 33 = .ok (.invokevirtual 127, 3) := by decide +kernel
theorem dX8_layTable_36 : decode cX8_layTable 36 = .ok (.ifCond .eq 75, 3) := by decide +kernel
theorem dX8_layTable_39 : decode cX8_layTable 39 = .ok (.iconst 0, 1) := by decide +kernel
theorem dX8_layTable_40 : decode cX8_layTable 40 = .ok (.istore 4, 2) := by decide +kernel
theorem dX8_layTable_42 : decode cX8_layTable 42 = .ok (.iload 4, 2) := by decide +kernel
theorem dX8_layTable_44 : decode cX8_layTable 44 = .ok (.aload_n 0, 1) := by decide +kernel
theorem dX8_layTable_45 : decode cX8_layTable 45 = .ok (.getfield 7, 3) := by decide +kernel
theorem dX8_layTable_48 : decode cX8_layTable 48 = .ok (.iload_n 1, 1) := by decide +kernel
theorem dX8_layTable_49 : decode cX8_layTable 49 = .ok (.iaload, 1) := by decide +kernel
theorem dX8_layTable_50 : decode cX8_layTable 50 = .ok (.if_icmp .ge 32, 3) := by decide +kernel
theorem dX8_layTable_53 : decode cX8_layTable 53 = .ok (.aload_n 0, 1) := by decide +kernel
theorem dX8_layTable_54 : decode cX8_layTable 54 = .ok (.getfield 44, 3) := by decide +kernel
theorem dX8_layTable_57 : decode cX8_layTable 57 = .ok (.iconst 5, 1) := by decide +kernel
theorem dX8_layTable_58 : decode cX8_layTable 58 = .ok (.aload_n 0, 1) := by decide +kernel
theorem dX8_layTable_59 : decode cX8_layTable 59 = .ok (.getfield 217, 3) := by decide +kernel
theorem dX8_layTable_62 : decode cX8_layTable 62 = .ok (.imul, 1) := by decide +kernel
theorem dX8_layTable_63 : decode cX8_layTable 63 = .ok (.iload 4, 2) := by decide +kernel
theorem dX8_layTable_65 : decode cX8_layTable 65 = .ok (.iadd, 1) := by decide +kernel
theorem dX8_layTable_66 : decode cX8_layTable 66 = .ok (.aload_n 0, 1) := by decide +kernel
theorem dX8_layTable_67 : decode cX8_layTable 67 = .ok (.iload_n 1, 1) := by decide +kernel
theorem dX8_layTable_68 : decode cX8_layTable 68 = .ok (.iload_n 3, 1) := by decide +kernel
theorem dX8_layTable_69 : decode cX8_layTable 69 = .ok (.iload 4, 2) := by decide +kernel
theorem dX8_layTable_71 : decode cX8_layTable 71 = .ok (.invokevirtual 123, 3) := by decide +kernel
theorem dX8_layTable_74 : decode cX8_layTable 74 = .ok (.i2l, 1) := by decide +kernel
theorem dX8_layTable_75 : decode cX8_layTable 75 = .ok (.lastore, 1) := by decide +kernel
theorem dX8_layTable_76 : decode cX8_layTable 76 = .ok (.iinc 4 1, 3) := by decide +kernel
theorem dX8_layTable_79 : decode cX8_layTable 79 = .ok (.goto (-37), 3) := by decide +kernel
theorem dX8_layTable_82 : decode cX8_layTable 82 = .ok (.aload_n 0, 1) := by decide +kernel
theorem dX8_layTable_83 : decode cX8_layTable 83 = .ok (.getfield 44, 3) := by decide +kernel
theorem dX8_layTable_86 : decode cX8_layTable 86 = .ok (.iconst 5, 1) := by decide +kernel
theorem dX8_layTable_87 : decode cX8_layTable 87 = .ok (.aload_n 0, 1) := by decide +kernel
theorem dX8_layTable_88 : decode cX8_layTable 88 = .ok (.getfield 217, 3) := by decide +kernel
theorem dX8_layTable_91 : decode cX8_layTable 91 = .ok (.imul, 1) := by decide +kernel
theorem dX8_layTable_92 : decode cX8_layTable 92 = .ok (.aload_n 0, 1) := by decide +kernel
theorem dX8_layTable_93 : decode cX8_layTable 93 = .ok (.getfield 7, 3) := by decide +kernel
theorem dX8_layTable_96 : decode cX8_layTable 96 = .ok (.iload_n 1, 1) := by decide +kernel
theorem dX8_layTable_97 : decode cX8_layTable 97 = .ok (.iaload, 1) := by decide +kernel
theorem dX8_layTable_98 : decode cX8_layTable 98 = .ok (.iadd, 1) := by decide +kernel
theorem dX8_layTable_99 : decode cX8_layTable 99 = .ok (.lconst 1, 1) := by decide +kernel
theorem dX8_layTable_100 : decode cX8_layTable 100 = .ok (.lastore, 1) := by decide +kernel
theorem dX8_layTable_101 : decode cX8_layTable 101 = .ok (.aload_n 0, 1) := by decide +kernel
theorem dX8_layTable_102 : decode cX8_layTable 102 = .ok (.dup, 1) := by decide +kernel
theorem dX8_layTable_103 : decode cX8_layTable 103 = .ok (.getfield 217, 3) := by decide +kernel
theorem dX8_layTable_106 : decode cX8_layTable 106 = .ok (.iconst 1, 1) := by decide +kernel
theorem dX8_layTable_107 : decode cX8_layTable 107 = .ok (.iadd, 1) := by decide +kernel
theorem dX8_layTable_108 : decode cX8_layTable 108 = .ok (.putfield 217, 3) := by decide +kernel
theorem dX8_layTable_111 : decode cX8_layTable 111 = .ok (.iinc 3 1, 3) := by decide +kernel
theorem dX8_layTable_114 : decode cX8_layTable 114 = .ok (.goto (-95), 3) := by decide +kernel
theorem dX8_layTable_117 : decode cX8_layTable 117 = .ok (.aload_n 0, 1) := by decide +kernel
theorem dX8_layTable_118 : decode cX8_layTable 118 = .ok (.invokevirtual 224, 3) := by decide +kernel
theorem dX8_layTable_121 : decode cX8_layTable 121 = .ok (.return_, 1) := by decide +kernel
theorem dX8_findBasis_0 : decode cX8_findBasis 0 = .ok (.aload_n 0, 1) := by decide +kernel
theorem dX8_findBasis_1 : decode cX8_findBasis 1 = .ok (.iload_n 1, 1) := by decide +kernel
theorem dX8_findBasis_2 : decode cX8_findBasis 2 = .ok (.iload_n 2, 1) := by decide +kernel
theorem dX8_findBasis_3 : decode cX8_findBasis 3 = .ok (.invokevirtual 227, 3) := by decide +kernel
theorem dX8_findBasis_6 : decode cX8_findBasis 6 = .ok (.aload_n 0, 1) := by decide +kernel
theorem dX8_findBasis_7 : decode cX8_findBasis 7 = .ok (.iconst 0, 1) := by decide +kernel
theorem dX8_findBasis_8 : decode cX8_findBasis 8 = .ok (.putfield 230, 3) := by decide +kernel
theorem dX8_findBasis_11 : decode cX8_findBasis 11 = .ok (.iconst 0, 1) := by decide +kernel
theorem dX8_findBasis_12 : decode cX8_findBasis 12 = .ok (.istore_n 3, 1) := by decide +kernel
theorem dX8_findBasis_13 : decode cX8_findBasis 13 = .ok (.iload_n 3, 1) := by decide +kernel
theorem dX8_findBasis_14 : decode cX8_findBasis 14 = .ok (.aload_n 0, 1) := by decide +kernel
theorem dX8_findBasis_15 : decode cX8_findBasis 15 = .ok (.getfield 214, 3) := by decide +kernel
theorem dX8_findBasis_18 : decode cX8_findBasis 18 = .ok (.if_icmp .ge 143, 3) := by decide +kernel
theorem dX8_findBasis_21 : decode cX8_findBasis 21 = .ok (.aload_n 0, 1) := by decide +kernel
theorem dX8_findBasis_22 : decode cX8_findBasis 22 = .ok (.getfield 217, 3) := by decide +kernel
theorem dX8_findBasis_25 : decode cX8_findBasis 25 = .ok (.ifCond .le 136, 3) := by decide +kernel
theorem dX8_findBasis_28 : decode cX8_findBasis 28 = .ok (.aload_n 0, 1) := by decide +kernel
theorem dX8_findBasis_29 : decode cX8_findBasis 29 = .ok (.getfield 51, 3) := by decide +kernel
theorem dX8_findBasis_32 : decode cX8_findBasis 32 = .ok (.iload_n 3, 1) := by decide +kernel
theorem dX8_findBasis_33 : decode cX8_findBasis 33 = .ok (.baload, 1) := by decide +kernel
theorem dX8_findBasis_34 : decode cX8_findBasis 34 = .ok (.ifCond .eq 121, 3) := by decide +kernel
theorem dX8_findBasis_37 : decode cX8_findBasis 37 = .ok (.iconst 0, 1) := by decide +kernel
theorem dX8_findBasis_38 : decode cX8_findBasis 38 = .ok (.istore 4, 2) := by decide +kernel
theorem dX8_findBasis_40 : decode cX8_findBasis 40 = .ok (.iload 4, 2) := by decide +kernel
theorem dX8_findBasis_42 : decode cX8_findBasis 42 = .ok (.aload_n 0, 1) := by decide +kernel
theorem dX8_findBasis_43 : decode cX8_findBasis 43 = .ok (.getfield 214, 3) := by decide +kernel
theorem dX8_findBasis_46 : decode cX8_findBasis 46 = .ok (.if_icmp .ge 24, 3) := by decide +kernel
theorem dX8_findBasis_49 : decode cX8_findBasis 49 = .ok (.aload_n 0, 1) := by decide +kernel
theorem dX8_findBasis_50 : decode cX8_findBasis 50 = .ok (.getfield 54, 3) := by decide +kernel
theorem dX8_findBasis_53 : decode cX8_findBasis 53 = .ok (.iconst 5, 1) := by decide +kernel
theorem dX8_findBasis_54 : decode cX8_findBasis 54 = .ok (.aload_n 0, 1) := by decide +kernel
theorem dX8_findBasis_55 : decode cX8_findBasis 55 = .ok (.getfield 230, 3) := by decide +kernel
theorem dX8_findBasis_58 : decode cX8_findBasis 58 = .ok (.imul, 1) := by decide +kernel
theorem dX8_findBasis_59 : decode cX8_findBasis 59 = .ok (.iload 4, 2) := by decide +kernel
theorem dX8_findBasis_61 : decode cX8_findBasis 61 = .ok (.iadd, 1) := by decide +kernel
theorem dX8_findBasis_62 : decode cX8_findBasis 62 = .ok (.lconst 0, 1) := by decide +kernel
theorem dX8_findBasis_63 : decode cX8_findBasis 63 = .ok (.lastore, 1) := by decide +kernel
theorem dX8_findBasis_64 : decode cX8_findBasis 64 = .ok (.iinc 4 1, 3) := by decide +kernel
theorem dX8_findBasis_67 : decode cX8_findBasis 67 = .ok (.goto (-27), 3) := by decide +kernel
theorem dX8_findBasis_70 : decode cX8_findBasis 70 = .ok (.aload_n 0, 1) := by decide +kernel
theorem dX8_findBasis_71 : decode cX8_findBasis 71 = .ok (.getfield 54, 3) := by decide +kernel
theorem dX8_findBasis_74 : decode cX8_findBasis 74 = .ok (.iconst 5, 1) := by decide +kernel
theorem dX8_findBasis_75 : decode cX8_findBasis 75 = .ok (.aload_n 0, 1) := by decide +kernel
theorem dX8_findBasis_76 : decode cX8_findBasis 76 = .ok (.getfield 230, 3) := by decide +kernel
theorem dX8_findBasis_79 : decode cX8_findBasis 79 = .ok (.imul, 1) := by decide +kernel
theorem dX8_findBasis_80 : decode cX8_findBasis 80 = .ok (.iload_n 3, 1) := by decide +kernel
theorem dX8_findBasis_81 : decode cX8_findBasis 81 = .ok (.iadd, 1) := by decide +kernel
theorem dX8_findBasis_82 : decode cX8_findBasis 82 = .ok (.aload_n 0, 1) := by decide +kernel
theorem dX8_findBasis_83 : decode cX8_findBasis 83 = .ok (.getfield 210, 3) := by decide +kernel
theorem dX8_findBasis_86 : decode cX8_findBasis 86 = .ok (.lastore, 1) := by decide +kernel
theorem dX8_findBasis_87 : decode cX8_findBasis 87 = .ok (.iconst 0, 1) := by decide +kernel
theorem dX8_findBasis_88 : decode cX8_findBasis 88 = .ok (.istore 4, 2) := by decide +kernel
theorem dX8_findBasis_90 : decode cX8_findBasis 90 = .ok (.iload 4, 2) := by decide +kernel
theorem dX8_findBasis_92 : decode cX8_findBasis 92 = .ok (.aload_n 0, 1) := by decide +kernel
theorem dX8_findBasis_93 : decode cX8_findBasis 93 = .ok (.getfield 207, 3) := by decide +kernel
theorem dX8_findBasis_96 : decode cX8_findBasis 96 = .ok (.if_icmp .ge 40, 3) := by decide +kernel
theorem dX8_findBasis_99 : decode cX8_findBasis 99 = .ok (.aload_n 0, 1) := by decide +kernel
theorem dX8_findBasis_100 : decode cX8_findBasis 100 = .ok (.getfield 54, 3) := by decide +kernel
theorem dX8_findBasis_103 : decode cX8_findBasis 103 = .ok (.iconst 5, 1) := by decide +kernel
theorem dX8_findBasis_104 : decode cX8_findBasis 104 = .ok (.aload_n 0, 1) := by decide +kernel
theorem dX8_findBasis_105 : decode cX8_findBasis 105 = .ok (.getfield 230, 3) := by decide +kernel
theorem dX8_findBasis_108 : decode cX8_findBasis 108 = .ok (.imul, 1) := by decide +kernel
theorem dX8_findBasis_109 : decode cX8_findBasis 109 = .ok (.aload_n 0, 1) := by decide +kernel
theorem dX8_findBasis_110 : decode cX8_findBasis 110 = .ok (.getfield 48, 3) := by decide +kernel
theorem dX8_findBasis_113 : decode cX8_findBasis 113 = .ok (.iload 4, 2) := by decide +kernel
theorem dX8_findBasis_115 : decode cX8_findBasis 115 = .ok (.iaload, 1) := by decide +kernel
theorem dX8_findBasis_116 : decode cX8_findBasis 116 = .ok (.iadd, 1) := by decide +kernel
theorem dX8_findBasis_117 : decode cX8_findBasis 117 = .ok (.aload_n 0, 1) := by decide +kernel
theorem dX8_findBasis_118 : decode cX8_findBasis 118 = .ok (.getfield 44, 3) := by decide +kernel
theorem dX8_findBasis_121 : decode cX8_findBasis 121 = .ok (.iconst 5, 1) := by decide +kernel
theorem dX8_findBasis_122 : decode cX8_findBasis 122 = .ok (.iload 4, 2) := by decide +kernel
theorem dX8_findBasis_124 : decode cX8_findBasis 124 = .ok (.imul, 1) := by decide +kernel
theorem dX8_findBasis_125 : decode cX8_findBasis 125 = .ok (.iload_n 3, 1) := by decide +kernel
theorem dX8_findBasis_126 : decode cX8_findBasis 126 = .ok (.iadd, 1) := by decide +kernel
theorem dX8_findBasis_127 : decode cX8_findBasis 127 = .ok (.laload, 1) := by decide +kernel
theorem dX8_findBasis_128 : decode cX8_findBasis 128 = .ok (.lneg, 1) := by decide +kernel
theorem dX8_findBasis_129 : decode cX8_findBasis 129 = .ok (.lastore, 1) := by decide +kernel
theorem dX8_findBasis_130 : decode cX8_findBasis 130 = .ok (.iinc 4 1, 3) := by decide +kernel
theorem dX8_findBasis_133 : decode cX8_findBasis 133 = .ok (.goto (-43), 3) := by decide +kernel
theorem dX8_findBasis_136 : decode cX8_findBasis 136 = .ok (.aload_n 0, 1) := by decide +kernel
theorem dX8_findBasis_137 : decode cX8_findBasis 137 = .ok (.aload_n 0, 1) := by decide +kernel
theorem dX8_findBasis_138 : decode cX8_findBasis 138 = .ok (.getfield 230, 3) := by decide +kernel
theorem dX8_findBasis_141 : decode cX8_findBasis 141 = .ok (.iload_n 3, 1) := by decide +kernel
theorem dX8_findBasis_142 : decode cX8_findBasis 142 = .ok (.invokevirtual 233, 3) := by decide +kernel
theorem dX8_findBasis_145 : decode cX8_findBasis 145 = .ok (.aload_n 0, 1) := by decide +kernel
theorem dX8_findBasis_146 : decode cX8_findBasis 146 = .ok (.dup, 1) := by decide +kernel
theorem dX8_findBasis_147 : decode cX8_findBasis 147 = .ok (.getfield 230, 3) := by decide +kernel
theorem dX8_findBasis_150 : decode cX8_findBasis 150 = .ok (.iconst 1, 1) := by decide +kernel
theorem dX8_findBasis_151 : decode cX8_findBasis 151 = .ok (.iadd, 1) := by decide +kernel
theorem dX8_findBasis_152 : decode cX8_findBasis 152 = .ok (.putfield 230, 3) := by decide +kernel
theorem dX8_findBasis_155 : decode cX8_findBasis 155 = .ok (.iinc 3 1, 3) := by decide +kernel
theorem dX8_findBasis_158 : decode cX8_findBasis 158 = .ok (.goto (-145), 3) := by decide +kernel
theorem dX8_findBasis_161 : decode cX8_findBasis 161 = .ok (.return_, 1) := by decide +kernel
theorem dX8_shorten_0 : decode cX8_shorten 0 = .ok (.lconst 0, 1) := by decide +kernel
theorem dX8_shorten_1 : decode cX8_shorten 1 = .ok (.lstore_n 3, 1) := by decide +kernel
theorem dX8_shorten_2 : decode cX8_shorten 2 = .ok (.iconst 0, 1) := by decide +kernel
theorem dX8_shorten_3 : decode cX8_shorten 3 = .ok (.istore 5, 2) := by decide +kernel
theorem dX8_shorten_5 : decode cX8_shorten 5 = .ok (.iload 5, 2) := by decide +kernel
theorem dX8_shorten_7 : decode cX8_shorten 7 = .ok (.aload_n 0, 1) := by decide +kernel
theorem dX8_shorten_8 : decode cX8_shorten 8 = .ok (.getfield 214, 3) := by decide +kernel
theorem dX8_shorten_11 : decode cX8_shorten 11 = .ok (.if_icmp .ge 76, 3) := by decide +kernel
theorem dX8_shorten_14 : decode cX8_shorten 14 = .ok (.aload_n 0, 1) := by decide +kernel
theorem dX8_shorten_15 : decode cX8_shorten 15 = .ok (.getfield 54, 3) := by decide +kernel
theorem dX8_shorten_18 : decode cX8_shorten 18 = .ok (.iconst 5, 1) := by decide +kernel
theorem dX8_shorten_19 : decode cX8_shorten 19 = .ok (.iload_n 1, 1) := by decide +kernel
theorem dX8_shorten_20 : decode cX8_shorten 20 = .ok (.imul, 1) := by decide +kernel
theorem dX8_shorten_21 : decode cX8_shorten 21 = .ok (.iload 5, 2) := by decide +kernel
theorem dX8_shorten_23 : decode cX8_shorten 23 = .ok (.iadd, 1) := by decide +kernel
theorem dX8_shorten_24 : decode cX8_shorten 24 = .ok (.laload, 1) := by decide +kernel
theorem dX8_shorten_25 : decode cX8_shorten 25 = .ok (.lconst 0, 1) := by decide +kernel
theorem dX8_shorten_26 : decode cX8_shorten 26 = .ok (.lcmp, 1) := by decide +kernel
theorem dX8_shorten_27 : decode cX8_shorten 27 = .ok (.ifCond .ge 18, 3) := by decide +kernel
theorem dX8_shorten_30 : decode cX8_shorten 30 = .ok (.aload_n 0, 1) := by decide +kernel
theorem dX8_shorten_31 : decode cX8_shorten 31 = .ok (.getfield 54, 3) := by decide +kernel
theorem dX8_shorten_34 : decode cX8_shorten 34 = .ok (.iconst 5, 1) := by decide +kernel
theorem dX8_shorten_35 : decode cX8_shorten 35 = .ok (.iload_n 1, 1) := by decide +kernel
theorem dX8_shorten_36 : decode cX8_shorten 36 = .ok (.imul, 1) := by decide +kernel
theorem dX8_shorten_37 : decode cX8_shorten 37 = .ok (.iload 5, 2) := by decide +kernel
theorem dX8_shorten_39 : decode cX8_shorten 39 = .ok (.iadd, 1) := by decide +kernel
theorem dX8_shorten_40 : decode cX8_shorten 40 = .ok (.laload, 1) := by decide +kernel
theorem dX8_shorten_41 : decode cX8_shorten 41 = .ok (.lneg, 1) := by decide +kernel
theorem dX8_shorten_42 : decode cX8_shorten 42 = .ok (.goto 14, 3) := by decide +kernel
theorem dX8_shorten_45 : decode cX8_shorten 45 = .ok (.aload_n 0, 1) := by decide +kernel
theorem dX8_shorten_46 : decode cX8_shorten 46 = .ok (.getfield 54, 3) := by decide +kernel
theorem dX8_shorten_49 : decode cX8_shorten 49 = .ok (.iconst 5, 1) := by decide +kernel
theorem dX8_shorten_50 : decode cX8_shorten 50 = .ok (.iload_n 1, 1) := by decide +kernel
theorem dX8_shorten_51 : decode cX8_shorten 51 = .ok (.imul, 1) := by decide +kernel
theorem dX8_shorten_52 : decode cX8_shorten 52 = .ok (.iload 5, 2) := by decide +kernel
theorem dX8_shorten_54 : decode cX8_shorten 54 = .ok (.iadd, 1) := by decide +kernel
theorem dX8_shorten_55 : decode cX8_shorten 55 = .ok (.laload, 1) := by decide +kernel
theorem dX8_shorten_56 : decode cX8_shorten 56 = .ok (.lstore 6, 2) := by decide +kernel
theorem dX8_shorten_58 : decode cX8_shorten 58 = .ok (.lload 6, 2) := by decide +kernel
theorem dX8_shorten_60 : decode cX8_shorten 60 = .ok (.lconst 0, 1) := by decide +kernel
theorem dX8_shorten_61 : decode cX8_shorten 61 = .ok (.lcmp, 1) := by decide +kernel
theorem dX8_shorten_62 : decode cX8_shorten 62 = .ok (.ifCond .eq 19, 3) := by decide +kernel
theorem dX8_shorten_65 : decode cX8_shorten 65 = .ok (.lload_n 3, 1) := by decide +kernel
theorem dX8_shorten_66 : decode cX8_shorten 66 = .ok (.lload 6, 2) := by decide +kernel
theorem dX8_shorten_68 : decode cX8_shorten 68 = .ok (.lrem, 1) := by decide +kernel
theorem dX8_shorten_69 : decode cX8_shorten 69 = .ok (.lstore 8, 2) := by decide +kernel
theorem dX8_shorten_71 : decode cX8_shorten 71 = .ok (.lload 6, 2) := by decide +kernel
theorem dX8_shorten_73 : decode cX8_shorten 73 = .ok (.lstore_n 3, 1) := by decide +kernel
theorem dX8_shorten_74 : decode cX8_shorten 74 = .ok (.lload 8, 2) := by decide +kernel
theorem dX8_shorten_76 : decode cX8_shorten 76 = .ok (.lstore 6, 2) := by decide +kernel
theorem dX8_shorten_78 : decode cX8_shorten 78 = .ok (.goto (-20), 3) := by decide +kernel
theorem dX8_shorten_81 : decode cX8_shorten 81 = .ok (.iinc 5 1, 3) := by decide +kernel
theorem dX8_shorten_84 : decode cX8_shorten 84 = .ok (.goto (-79), 3) := by decide +kernel
theorem dX8_shorten_87 : decode cX8_shorten 87 = .ok (.aload_n 0, 1) := by decide +kernel
theorem dX8_shorten_88 : decode cX8_shorten 88 = .ok (.getfield 54, 3) := by decide +kernel
theorem dX8_shorten_91 : decode cX8_shorten 91 = .ok (.iconst 5, 1) := by decide +kernel
theorem dX8_shorten_92 : decode cX8_shorten 92 = .ok (.iload_n 1, 1) := by decide +kernel
theorem dX8_shorten_93 : decode cX8_shorten 93 = .ok (.imul, 1) := by decide +kernel
theorem dX8_shorten_94 : decode cX8_shorten 94 = .ok (.iload_n 2, 1) := by decide +kernel
theorem dX8_shorten_95 : decode cX8_shorten 95 = .ok (.iadd, 1) := by decide +kernel
theorem dX8_shorten_96 : decode cX8_shorten 96 = .ok (.laload, 1) := by decide +kernel
theorem dX8_shorten_97 : decode cX8_shorten 97 = .ok (.lconst 0, 1) := by decide +kernel
theorem dX8_shorten_98 : decode cX8_shorten 98 = .ok (.lcmp, 1) := by decide +kernel
theorem dX8_shorten_99 : decode cX8_shorten 99 = .ok (.ifCond .ge 8, 3) := by decide +kernel
theorem dX8_shorten_102 : decode cX8_shorten 102 = .ok (.lload_n 3, 1) := by decide +kernel
theorem dX8_shorten_103 : decode cX8_shorten 103 = .ok (.lneg, 1) := by decide +kernel
theorem dX8_shorten_104 : decode cX8_shorten 104 = .ok (.goto 4, 3) := by decide +kernel
theorem dX8_shorten_107 : decode cX8_shorten 107 = .ok (.lload_n 3, 1) := by decide +kernel
theorem dX8_shorten_108 : decode cX8_shorten 108 = .ok (.lstore_n 3, 1) := by decide +kernel
theorem dX8_shorten_109 : decode cX8_shorten 109 = .ok (.iconst 0, 1) := by decide +kernel
theorem dX8_shorten_110 : decode cX8_shorten 110 = .ok (.istore 5, 2) := by decide +kernel
theorem dX8_shorten_112 : decode cX8_shorten 112 = .ok (.iload 5, 2) := by decide +kernel
theorem dX8_shorten_114 : decode cX8_shorten 114 = .ok (.aload_n 0, 1) := by decide +kernel
theorem dX8_shorten_115 : decode cX8_shorten 115 = .ok (.getfield 214, 3) := by decide +kernel
theorem dX8_shorten_118 : decode cX8_shorten 118 = .ok (.if_icmp .ge 24, 3) := by decide +kernel
theorem dX8_shorten_121 : decode cX8_shorten 121 = .ok (.aload_n 0, 1) := by decide +kernel
theorem dX8_shorten_122 : decode cX8_shorten 122 = .ok (.getfield 54, 3) := by decide +kernel
theorem dX8_shorten_125 : decode cX8_shorten 125 = .ok (.iconst 5, 1) := by decide +kernel
theorem dX8_shorten_126 : decode cX8_shorten 126 = .ok (.iload_n 1, 1) := by decide +kernel
theorem dX8_shorten_127 : decode cX8_shorten 127 = .ok (.imul, 1) := by decide +kernel
theorem dX8_shorten_128 : decode cX8_shorten 128 = .ok (.iload 5, 2) := by decide +kernel
theorem dX8_shorten_130 : decode cX8_shorten 130 = .ok (.iadd, 1) := by decide +kernel
theorem dX8_shorten_131 : decode cX8_shorten 131 = .ok (.dup2, 1) := by decide +kernel
theorem dX8_shorten_132 : decode cX8_shorten 132 = .ok (.laload, 1) := by decide +kernel
theorem dX8_shorten_133 : decode cX8_shorten 133 = .ok (.lload_n 3, 1) := by decide +kernel
theorem dX8_shorten_134 : decode cX8_shorten 134 = .ok (.ldiv, 1) := by decide +kernel
theorem dX8_shorten_135 : decode cX8_shorten 135 = .ok (.lastore, 1) := by decide +kernel
theorem dX8_shorten_136 : decode cX8_shorten 136 = .ok (.iinc 5 1, 3) := by decide +kernel
theorem dX8_shorten_139 : decode cX8_shorten 139 = .ok (.goto (-27), 3) := by decide +kernel
theorem dX8_shorten_142 : decode cX8_shorten 142 = .ok (.return_, 1) := by decide +kernel
theorem dX8_sums_0 : decode cX8_sums 0 = .ok (.aload_n 0, 1) := by decide +kernel
theorem dX8_sums_1 : decode cX8_sums 1 = .ok (.iload_n 1, 1) := by decide +kernel
theorem dX8_sums_2 : decode cX8_sums 2 = .ok (.iload_n 2, 1) := by decide +kernel
theorem dX8_sums_3 : decode cX8_sums 3 = .ok (.invokevirtual 138, 3) := by decide +kernel
theorem dX8_sums_6 : decode cX8_sums 6 = .ok (.ifCond .eq 5, 3) := by decide +kernel
theorem dX8_sums_9 : decode cX8_sums 9 = .ok (.iconst (-1), 1) := by decide +kernel
theorem dX8_sums_10 : decode cX8_sums 10 = .ok (.ireturn, 1) := by decide +kernel
theorem dX8_sums_11 : decode cX8_sums 11 = .ok (.aload_n 0, 1) := by decide +kernel
theorem dX8_sums_12 : decode cX8_sums 12 = .ok (.iload_n 1, 1) := by decide +kernel
theorem dX8_sums_13 : decode cX8_sums 13 = .ok (.iload_n 2, 1) := by decide +kernel
theorem dX8_sums_14 : decode cX8_sums 14 = .ok (.invokevirtual 236, 3) := by decide +kernel
theorem dX8_sums_17 : decode cX8_sums 17 = .ok (.aload_n 0, 1) := by decide +kernel
theorem dX8_sums_18 : decode cX8_sums 18 = .ok (.getfield 217, 3) := by decide +kernel
theorem dX8_sums_21 : decode cX8_sums 21 = .ok (.ifCond .ne 8, 3) := by decide +kernel
theorem dX8_sums_24 : decode cX8_sums 24 = .ok (.bipush (-9), 2) := by decide +kernel
theorem dX8_sums_26 : decode cX8_sums 26 = .ok (.goto 7, 3) := by decide +kernel
theorem dX8_sums_29 : decode cX8_sums 29 = .ok (.aload_n 0, 1) := by decide +kernel
theorem dX8_sums_30 : decode cX8_sums 30 = .ok (.getfield 230, 3) := by decide +kernel
theorem dX8_sums_33 : decode cX8_sums 33 = .ok (.ireturn, 1) := by decide +kernel
theorem dX8_sum_0 : decode cX8_sum 0 = .ok (.aload_n 0, 1) := by decide +kernel
theorem dX8_sum_1 : decode cX8_sum 1 = .ok (.iload_n 1, 1) := by decide +kernel
theorem dX8_sum_2 : decode cX8_sum 2 = .ok (.iload_n 2, 1) := by decide +kernel
theorem dX8_sum_3 : decode cX8_sum 3 = .ok (.invokevirtual 138, 3) := by decide +kernel
theorem dX8_sum_6 : decode cX8_sum 6 = .ok (.ifCond .eq 7, 3) := by decide +kernel
theorem dX8_sum_9 : decode cX8_sum 9 = .ok (.ldc2_w 239, 3) := by decide +kernel
theorem dX8_sum_12 : decode cX8_sum 12 = .ok (.lreturn, 1) := by decide +kernel
theorem dX8_sum_13 : decode cX8_sum 13 = .ok (.aload_n 0, 1) := by decide +kernel
theorem dX8_sum_14 : decode cX8_sum 14 = .ok (.iload_n 1, 1) := by decide +kernel
theorem dX8_sum_15 : decode cX8_sum 15 = .ok (.iload_n 2, 1) := by decide +kernel
theorem dX8_sum_16 : decode cX8_sum 16 = .ok (.invokevirtual 236, 3) := by decide +kernel
theorem dX8_sum_19 : decode cX8_sum 19 = .ok (.iload_n 3, 1) := by decide +kernel
theorem dX8_sum_20 : decode cX8_sum 20 = .ok (.iconst 0, 1) := by decide +kernel
theorem dX8_sum_21 : decode cX8_sum 21 = .ok (.aload_n 0, 1) := by decide +kernel
theorem dX8_sum_22 : decode cX8_sum 22 = .ok (.getfield 230, 3) := by decide +kernel
theorem dX8_sum_25 : decode cX8_sum 25 = .ok (.iconst 1, 1) := by decide +kernel
theorem dX8_sum_26 : decode cX8_sum 26 = .ok (.isub, 1) := by decide +kernel
theorem dX8_sum_27 : decode cX8_sum 27 = .ok (.invokestatic 115, 3) := by decide +kernel
theorem dX8_sum_30 : decode cX8_sum 30 = .ok (.ifCond .eq 32, 3) := by decide +kernel
theorem dX8_sum_33 : decode cX8_sum 33 = .ok (.iload 4, 2) := by decide +kernel
theorem dX8_sum_35 : decode cX8_sum 35 = .ok (.iconst 0, 1) := by decide +kernel
theorem dX8_sum_36 : decode cX8_sum 36 = .ok (.aload_n 0, 1) := by decide +kernel
theorem dX8_sum_37 : decode cX8_sum 37 = .ok (.getfield 214, 3) := by decide +kernel
theorem dX8_sum_40 : decode cX8_sum 40 = .ok (.iconst 1, 1) := by decide +kernel
theorem dX8_sum_41 : decode cX8_sum 41 = .ok (.isub, 1) := by decide +kernel
theorem dX8_sum_42 : decode cX8_sum 42 = .ok (.invokestatic 115, 3) := by decide +kernel
theorem dX8_sum_45 : decode cX8_sum 45 = .ok (.ifCond .eq 17, 3) := by decide +kernel
theorem dX8_sum_48 : decode cX8_sum 48 = .ok (.aload_n 0, 1) := by decide +kernel
theorem dX8_sum_49 : decode cX8_sum 49 = .ok (.getfield 54, 3) := by decide +kernel
theorem dX8_sum_52 : decode cX8_sum 52 = .ok (.iconst 5, 1) := by decide +kernel
theorem dX8_sum_53 : decode cX8_sum 53 = .ok (.iload_n 3, 1) := by decide +kernel
theorem dX8_sum_54 : decode cX8_sum 54 = .ok (.imul, 1) := by decide +kernel
theorem dX8_sum_55 : decode cX8_sum 55 = .ok (.iload 4, 2) := by decide +kernel
theorem dX8_sum_57 : decode cX8_sum 57 = .ok (.iadd, 1) := by decide +kernel
theorem dX8_sum_58 : decode cX8_sum 58 = .ok (.laload, 1) := by decide +kernel
theorem dX8_sum_59 : decode cX8_sum 59 = .ok (.goto 6, 3) := by decide +kernel
theorem dX8_sum_62 : decode cX8_sum 62 = .ok (.ldc2_w 239, 3) := by decide +kernel
theorem dX8_sum_65 : decode cX8_sum 65 = .ok (.lreturn, 1) := by decide +kernel
theorem dX8_start_0 : decode cX8_start 0 = .ok (.aload_n 0, 1) := by decide +kernel
theorem dX8_start_1 : decode cX8_start 1 = .ok (.iload_n 1, 1) := by decide +kernel
theorem dX8_start_2 : decode cX8_start 2 = .ok (.invokevirtual 119, 3) := by decide +kernel
theorem dX8_start_5 : decode cX8_start 5 = .ok (.ifCond .eq 5, 3) := by decide +kernel
theorem dX8_start_8 : decode cX8_start 8 = .ok (.iconst (-1), 1) := by decide +kernel
theorem dX8_start_9 : decode cX8_start 9 = .ok (.ireturn, 1) := by decide +kernel
theorem dX8_start_10 : decode cX8_start 10 = .ok (.aload_n 0, 1) := by decide +kernel
theorem dX8_start_11 : decode cX8_start 11 = .ok (.iload_n 1, 1) := by decide +kernel
theorem dX8_start_12 : decode cX8_start 12 = .ok (.iload_n 2, 1) := by decide +kernel
theorem dX8_start_13 : decode cX8_start 13 = .ok (.iload_n 3, 1) := by decide +kernel
theorem dX8_start_14 : decode cX8_start 14 = .ok (.iload 4, 2) := by decide +kernel
theorem dX8_start_16 : decode cX8_start 16 = .ok (.iload 5, 2) := by decide +kernel
theorem dX8_start_18 : decode cX8_start 18 = .ok (.invokevirtual 200, 3) := by decide +kernel
theorem dX8_start_21 : decode cX8_start 21 = .ok (.ifCond .ne 6, 3) := by decide +kernel
theorem dX8_start_24 : decode cX8_start 24 = .ok (.bipush (-2), 2) := by decide +kernel
theorem dX8_start_26 : decode cX8_start 26 = .ok (.ireturn, 1) := by decide +kernel
theorem dX8_start_27 : decode cX8_start 27 = .ok (.aload_n 0, 1) := by decide +kernel
theorem dX8_start_28 : decode cX8_start 28 = .ok (.iload_n 1, 1) := by decide +kernel
theorem dX8_start_29 : decode cX8_start 29 = .ok (.putfield 109, 3) := by decide +kernel
theorem dX8_start_32 : decode cX8_start 32 = .ok (.aload_n 0, 1) := by decide +kernel
theorem dX8_start_33 : decode cX8_start 33 = .ok (.getfield 57, 3) := by decide +kernel
theorem dX8_start_36 : decode cX8_start 36 = .ok (.iconst 0, 1) := by decide +kernel
theorem dX8_start_37 : decode cX8_start 37 = .ok (.iload_n 2, 1) := by decide +kernel
theorem dX8_start_38 : decode cX8_start 38 = .ok (.iastore, 1) := by decide +kernel
theorem dX8_start_39 : decode cX8_start 39 = .ok (.aload_n 0, 1) := by decide +kernel
theorem dX8_start_40 : decode cX8_start 40 = .ok (.getfield 57, 3) := by decide +kernel
theorem dX8_start_43 : decode cX8_start 43 = .ok (.iconst 1, 1) := by decide +kernel
theorem dX8_start_44 : decode cX8_start 44 = .ok (.iload_n 3, 1) := by decide +kernel
theorem dX8_start_45 : decode cX8_start 45 = .ok (.iastore, 1) := by decide +kernel
theorem dX8_start_46 : decode cX8_start 46 = .ok (.aload_n 0, 1) := by decide +kernel
theorem dX8_start_47 : decode cX8_start 47 = .ok (.getfield 57, 3) := by decide +kernel
theorem dX8_start_50 : decode cX8_start 50 = .ok (.iconst 2, 1) := by decide +kernel
theorem dX8_start_51 : decode cX8_start 51 = .ok (.iload 4, 2) := by decide +kernel
theorem dX8_start_53 : decode cX8_start 53 = .ok (.iastore, 1) := by decide +kernel
theorem dX8_start_54 : decode cX8_start 54 = .ok (.aload_n 0, 1) := by decide +kernel
theorem dX8_start_55 : decode cX8_start 55 = .ok (.getfield 57, 3) := by decide +kernel
theorem dX8_start_58 : decode cX8_start 58 = .ok (.iconst 3, 1) := by decide +kernel
theorem dX8_start_59 : decode cX8_start 59 = .ok (.iload 5, 2) := by decide +kernel
theorem dX8_start_61 : decode cX8_start 61 = .ok (.iastore, 1) := by decide +kernel
theorem dX8_start_62 : decode cX8_start 62 = .ok (.iconst 1, 1) := by decide +kernel
theorem dX8_start_63 : decode cX8_start 63 = .ok (.ireturn, 1) := by decide +kernel
theorem dX8_act_0 : decode cX8_act 0 = .ok (.aload_n 0, 1) := by decide +kernel
theorem dX8_act_1 : decode cX8_act 1 = .ok (.iload_n 1, 1) := by decide +kernel
theorem dX8_act_2 : decode cX8_act 2 = .ok (.invokevirtual 119, 3) := by decide +kernel
theorem dX8_act_5 : decode cX8_act 5 = .ok (.ifCond .ne 11, 3) := by decide +kernel
theorem dX8_act_8 : decode cX8_act 8 = .ok (.aload_n 0, 1) := by decide +kernel
theorem dX8_act_9 : decode cX8_act 9 = .ok (.iload_n 2, 1) := by decide +kernel
theorem dX8_act_10 : decode cX8_act 10 = .ok (.invokevirtual 119, 3) := by decide +kernel
theorem dX8_act_13 : decode cX8_act 13 = .ok (.ifCond .eq 5, 3) := by decide +kernel
theorem dX8_act_16 : decode cX8_act 16 = .ok (.iconst (-1), 1) := by decide +kernel
theorem dX8_act_17 : decode cX8_act 17 = .ok (.ireturn, 1) := by decide +kernel
theorem dX8_act_18 : decode cX8_act 18 = .ok (.aload_n 0, 1) := by decide +kernel
theorem dX8_act_19 : decode cX8_act 19 = .ok (.getfield 241, 3) := by decide +kernel
theorem dX8_act_22 : decode cX8_act 22 = .ok (.bipush 10, 2) := by decide +kernel
theorem dX8_act_24 : decode cX8_act 24 = .ok (.if_icmp .ne 6, 3) := by decide +kernel
theorem dX8_act_27 : decode cX8_act 27 = .ok (.bipush (-4), 2) := by decide +kernel
theorem dX8_act_29 : decode cX8_act 29 = .ok (.ireturn, 1) := by decide +kernel
theorem dX8_act_30 : decode cX8_act 30 = .ok (.aload_n 0, 1) := by decide +kernel
theorem dX8_act_31 : decode cX8_act 31 = .ok (.getfield 60, 3) := by decide +kernel
theorem dX8_act_34 : decode cX8_act 34 = .ok (.aload_n 0, 1) := by decide +kernel
theorem dX8_act_35 : decode cX8_act 35 = .ok (.getfield 241, 3) := by decide +kernel
theorem dX8_act_38 : decode cX8_act 38 = .ok (.iload_n 1, 1) := by decide +kernel
theorem dX8_act_39 : decode cX8_act 39 = .ok (.iastore, 1) := by decide +kernel
theorem dX8_act_40 : decode cX8_act 40 = .ok (.aload_n 0, 1) := by decide +kernel
theorem dX8_act_41 : decode cX8_act 41 = .ok (.getfield 63, 3) := by decide +kernel
theorem dX8_act_44 : decode cX8_act 44 = .ok (.aload_n 0, 1) := by decide +kernel
