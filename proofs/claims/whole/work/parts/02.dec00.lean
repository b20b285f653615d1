theorem dX0_init_0 : decode cX0_init 0 = .ok (.aload_n 0, 1) := by decide +kernel
theorem dX0_init_1 : decode cX0_init 1 = .ok (.invokespecial 3, 3) := by decide +kernel
theorem dX0_init_4 : decode cX0_init 4 = .ok (.aload_n 0, 1) := by decide +kernel
theorem dX0_init_5 : decode cX0_init 5 = .ok (.iload_n 1, 1) := by decide +kernel
theorem dX0_init_6 : decode cX0_init 6 = .ok (.putfield 9, 3) := by decide +kernel
theorem dX0_init_9 : decode cX0_init 9 = .ok (.aload_n 0, 1) := by decide +kernel
theorem dX0_init_10 : decode cX0_init 10 = .ok (.iload_n 2, 1) := by decide +kernel
theorem dX0_init_11 : decode cX0_init 11 = .ok (.putfield 15, 3) := by decide +kernel
theorem dX0_init_14 : decode cX0_init 14 = .ok (.aload_n 0, 1) := by decide +kernel
theorem dX0_init_15 : decode cX0_init 15 = .ok (.iload_n 3, 1) := by decide +kernel
theorem dX0_init_16 : decode cX0_init 16 = .ok (.putfield 18, 3) := by decide +kernel
theorem dX0_init_19 : decode cX0_init 19 = .ok (.aload_n 0, 1) := by decide +kernel
theorem dX0_init_20 : decode cX0_init 20 = .ok (.iload 4, 2) := by decide +kernel
theorem dX0_init_22 : decode cX0_init 22 = .ok (.putfield 21, 3) := by decide +kernel
theorem dX0_init_25 : decode cX0_init 25 = .ok (.aload_n 0, 1) := by decide +kernel
theorem dX0_init_26 : decode cX0_init 26 = .ok (.iload 4, 2) := by decide +kernel
theorem dX0_init_28 : decode cX0_init 28 = .ok (.iconst 5, 1) := by decide +kernel
theorem dX0_init_29 : decode cX0_init 29 = .ok (.multianewarray 24 2, 4) := by decide +kernel
theorem dX0_init_33 : decode cX0_init 33 = .ok (.putfield 26, 3) := by decide +kernel
theorem dX0_init_36 : decode cX0_init 36 = .ok (.return_, 1) := by decide +kernel
theorem dX0_hasVariable_0 : decode cX0_hasVariable 0 = .ok (.iload_n 1, 1) := by decide +kernel
theorem dX0_hasVariable_1 : decode cX0_hasVariable 1 = .ok (.ifCond .lt 15, 3) := by decide +kernel
theorem dX0_hasVariable_4 : decode cX0_hasVariable 4 = .ok (.iload_n 1, 1) := by decide +kernel
theorem dX0_hasVariable_5 : decode cX0_hasVariable 5 = .ok (.aload_n 0, 1) := by decide +kernel
theorem dX0_hasVariable_6 : decode cX0_hasVariable 6 = .ok (.getfield 21, 3) := by decide +kernel
theorem dX0_hasVariable_9 : decode cX0_hasVariable 9 = .ok (.if_icmp .ge 7, 3) := by decide +kernel
theorem dX0_hasVariable_12 : decode cX0_hasVariable 12 = .ok (.iconst 1, 1) := by decide +kernel
theorem dX0_hasVariable_13 : decode cX0_hasVariable 13 = .ok (.goto 4, 3) := by decide +kernel
theorem dX0_hasVariable_16 : decode cX0_hasVariable 16 = .ok (.iconst 0, 1) := by decide +kernel
theorem dX0_hasVariable_17 : decode cX0_hasVariable 17 = .ok (.ireturn, 1) := by decide +kernel
theorem dX0_set_0 : decode cX0_set 0 = .ok (.iconst 0, 1) := by decide +kernel
theorem dX0_set_1 : decode cX0_set 1 = .ok (.istore 4, 2) := by decide +kernel
theorem dX0_set_3 : decode cX0_set 3 = .ok (.iload 4, 2) := by decide +kernel
theorem dX0_set_5 : decode cX0_set 5 = .ok (.aload_n 0, 1) := by decide +kernel
theorem dX0_set_6 : decode cX0_set 6 = .ok (.getfield 18, 3) := by decide +kernel
theorem dX0_set_9 : decode cX0_set 9 = .ok (.if_icmp .ge 22, 3) := by decide +kernel
theorem dX0_set_12 : decode cX0_set 12 = .ok (.aload_n 0, 1) := by decide +kernel
theorem dX0_set_13 : decode cX0_set 13 = .ok (.getfield 26, 3) := by decide +kernel
theorem dX0_set_16 : decode cX0_set 16 = .ok (.iload_n 1, 1) := by decide +kernel
theorem dX0_set_17 : decode cX0_set 17 = .ok (.aaload, 1) := by decide +kernel
theorem dX0_set_18 : decode cX0_set 18 = .ok (.iload 4, 2) := by decide +kernel
theorem dX0_set_20 : decode cX0_set 20 = .ok (.aload_n 2, 1) := by decide +kernel
theorem dX0_set_21 : decode cX0_set 21 = .ok (.iload 4, 2) := by decide +kernel
theorem dX0_set_23 : decode cX0_set 23 = .ok (.iaload, 1) := by decide +kernel
theorem dX0_set_24 : decode cX0_set 24 = .ok (.iastore, 1) := by decide +kernel
theorem dX0_set_25 : decode cX0_set 25 = .ok (.iinc 4 1, 3) := by decide +kernel
theorem dX0_set_28 : decode cX0_set 28 = .ok (.goto (-25), 3) := by decide +kernel
theorem dX0_set_31 : decode cX0_set 31 = .ok (.aload_n 0, 1) := by decide +kernel
theorem dX0_set_32 : decode cX0_set 32 = .ok (.getfield 26, 3) := by decide +kernel
theorem dX0_set_35 : decode cX0_set 35 = .ok (.iload_n 1, 1) := by decide +kernel
theorem dX0_set_36 : decode cX0_set 36 = .ok (.aaload, 1) := by decide +kernel
theorem dX0_set_37 : decode cX0_set 37 = .ok (.iconst 4, 1) := by decide +kernel
theorem dX0_set_38 : decode cX0_set 38 = .ok (.iload_n 3, 1) := by decide +kernel
theorem dX0_set_39 : decode cX0_set 39 = .ok (.iastore, 1) := by decide +kernel
theorem dX0_set_40 : decode cX0_set 40 = .ok (.return_, 1) := by decide +kernel
theorem dX0_leads_0 : decode cX0_leads 0 = .ok (.iconst 0, 1) := by decide +kernel
theorem dX0_leads_1 : decode cX0_leads 1 = .ok (.istore_n 3, 1) := by decide +kernel
theorem dX0_leads_2 : decode cX0_leads 2 = .ok (.iload_n 3, 1) := by decide +kernel
theorem dX0_leads_3 : decode cX0_leads 3 = .ok (.aload_n 0, 1) := by decide +kernel
theorem dX0_leads_4 : decode cX0_leads 4 = .ok (.getfield 21, 3) := by decide +kernel
theorem dX0_leads_7 : decode cX0_leads 7 = .ok (.if_icmp .ge 73, 3) := by decide +kernel
theorem dX0_leads_10 : decode cX0_leads 10 = .ok (.aload_n 0, 1) := by decide +kernel
theorem dX0_leads_11 : decode cX0_leads 11 = .ok (.getfield 26, 3) := by decide +kernel
theorem dX0_leads_14 : decode cX0_leads 14 = .ok (.iload_n 3, 1) := by decide +kernel
theorem dX0_leads_15 : decode cX0_leads 15 = .ok (.aaload, 1) := by decide +kernel
theorem dX0_leads_16 : decode cX0_leads 16 = .ok (.astore 4, 2) := by decide +kernel
theorem dX0_leads_18 : decode cX0_leads 18 = .ok (.aload 4, 2) := by decide +kernel
theorem dX0_leads_20 : decode cX0_leads 20 = .ok (.iconst 4, 1) := by decide +kernel
theorem dX0_leads_21 : decode cX0_leads 21 = .ok (.iaload, 1) := by decide +kernel
theorem dX0_leads_22 : decode cX0_leads 22 = .ok (.istore 5, 2) := by decide +kernel
theorem dX0_leads_24 : decode cX0_leads 24 = .ok (.iconst 0, 1) := by decide +kernel
theorem dX0_leads_25 : decode cX0_leads 25 = .ok (.istore 6, 2) := by decide +kernel
theorem dX0_leads_27 : decode cX0_leads 27 = .ok (.iload 6, 2) := by decide +kernel
theorem dX0_leads_29 : decode cX0_leads 29 = .ok (.aload_n 0, 1) := by decide +kernel
theorem dX0_leads_30 : decode cX0_leads 30 = .ok (.getfield 18, 3) := by decide +kernel
theorem dX0_leads_33 : decode cX0_leads 33 = .ok (.if_icmp .ge 24, 3) := by decide +kernel
theorem dX0_leads_36 : decode cX0_leads 36 = .ok (.iload 5, 2) := by decide +kernel
theorem dX0_leads_38 : decode cX0_leads 38 = .ok (.aload 4, 2) := by decide +kernel
theorem dX0_leads_40 : decode cX0_leads 40 = .ok (.iload 6, 2) := by decide +kernel
theorem dX0_leads_42 : decode cX0_leads 42 = .ok (.iaload, 1) := by decide +kernel
theorem dX0_leads_43 : decode cX0_leads 43 = .ok (.aload_n 1, 1) := by decide +kernel
theorem dX0_leads_44 : decode cX0_leads 44 = .ok (.iload 6, 2) := by decide +kernel
theorem dX0_leads_46 : decode cX0_leads 46 = .ok (.iaload, 1) := by decide +kernel
theorem dX0_leads_47 : decode cX0_leads 47 = .ok (.imul, 1) := by decide +kernel
theorem dX0_leads_48 : decode cX0_leads 48 = .ok (.iadd, 1) := by decide +kernel
theorem dX0_leads_49 : decode cX0_leads 49 = .ok (.istore 5, 2) := by decide +kernel
theorem dX0_leads_51 : decode cX0_leads 51 = .ok (.iinc 6 1, 3) := by decide +kernel
theorem dX0_leads_54 : decode cX0_leads 54 = .ok (.goto (-27), 3) := by decide +kernel
theorem dX0_leads_57 : decode cX0_leads 57 = .ok (.iload 5, 2) := by decide +kernel
theorem dX0_leads_59 : decode cX0_leads 59 = .ok (.bipush 30, 2) := by decide +kernel
theorem dX0_leads_61 : decode cX0_leads 61 = .ok (.invokestatic 29, 3) := by decide +kernel
theorem dX0_leads_64 : decode cX0_leads 64 = .ok (.ifCond .ne 5, 3) := by decide +kernel
theorem dX0_leads_67 : decode cX0_leads 67 = .ok (.iconst 0, 1) := by decide +kernel
theorem dX0_leads_68 : decode cX0_leads 68 = .ok (.ireturn, 1) := by decide +kernel
theorem dX0_leads_69 : decode cX0_leads 69 = .ok (.aload_n 2, 1) := by decide +kernel
theorem dX0_leads_70 : decode cX0_leads 70 = .ok (.iload_n 3, 1) := by decide +kernel
theorem dX0_leads_71 : decode cX0_leads 71 = .ok (.iload 5, 2) := by decide +kernel
theorem dX0_leads_73 : decode cX0_leads 73 = .ok (.iastore, 1) := by decide +kernel
theorem dX0_leads_74 : decode cX0_leads 74 = .ok (.iinc 3 1, 3) := by decide +kernel
theorem dX0_leads_77 : decode cX0_leads 77 = .ok (.goto (-75), 3) := by decide +kernel
theorem dX0_leads_80 : decode cX0_leads 80 = .ok (.iconst 1, 1) := by decide +kernel
theorem dX0_leads_81 : decode cX0_leads 81 = .ok (.ireturn, 1) := by decide +kernel
theorem dX0_putIn_0 : decode cX0_putIn 0 = .ok (.iconst 0, 1) := by decide +kernel
theorem dX0_putIn_1 : decode cX0_putIn 1 = .ok (.istore_n 3, 1) := by decide +kernel
theorem dX0_putIn_2 : decode cX0_putIn 2 = .ok (.iload_n 3, 1) := by decide +kernel
theorem dX0_putIn_3 : decode cX0_putIn 3 = .ok (.aload_n 0, 1) := by decide +kernel
theorem dX0_putIn_4 : decode cX0_putIn 4 = .ok (.getfield 18, 3) := by decide +kernel
theorem dX0_putIn_7 : decode cX0_putIn 7 = .ok (.if_icmp .gt 88, 3) := by decide +kernel
theorem dX0_putIn_10 : decode cX0_putIn 10 = .ok (.iload_n 3, 1) := by decide +kernel
theorem dX0_putIn_11 : decode cX0_putIn 11 = .ok (.aload_n 0, 1) := by decide +kernel
theorem dX0_putIn_12 : decode cX0_putIn 12 = .ok (.getfield 18, 3) := by decide +kernel
theorem dX0_putIn_15 : decode cX0_putIn 15 = .ok (.if_icmp .ge 7, 3) := by decide +kernel
theorem dX0_putIn_18 : decode cX0_putIn 18 = .ok (.iload_n 3, 1) := by decide +kernel
theorem dX0_putIn_19 : decode cX0_putIn 19 = .ok (.goto 4, 3) := by decide +kernel
theorem dX0_putIn_22 : decode cX0_putIn 22 = .ok (.iconst 4, 1) := by decide +kernel
theorem dX0_putIn_23 : decode cX0_putIn 23 = .ok (.istore 4, 2) := by decide +kernel
theorem dX0_putIn_25 : decode cX0_putIn 25 = .ok (.iload_n 3, 1) := by decide +kernel
theorem dX0_putIn_26 : decode cX0_putIn 26 = .ok (.aload_n 0, 1) := by decide +kernel
theorem dX0_putIn_27 : decode cX0_putIn 27 = .ok (.getfield 18, 3) := by decide +kernel
theorem dX0_putIn_30 : decode cX0_putIn 30 = .ok (.if_icmp .ge 7, 3) := by decide +kernel
theorem dX0_putIn_33 : decode cX0_putIn 33 = .ok (.lconst 0, 1) := by decide +kernel
theorem dX0_putIn_34 : decode cX0_putIn 34 = .ok (.goto 9, 3) := by decide +kernel
theorem dX0_putIn_37 : decode cX0_putIn 37 = .ok (.aload_n 1, 1) := by decide +kernel
theorem dX0_putIn_38 : decode cX0_putIn 38 = .ok (.aload_n 0, 1) := by decide +kernel
theorem dX0_putIn_39 : decode cX0_putIn 39 = .ok (.getfield 21, 3) := by decide +kernel
theorem dX0_putIn_42 : decode cX0_putIn 42 = .ok (.laload, 1) := by decide +kernel
theorem dX0_putIn_43 : decode cX0_putIn 43 = .ok (.lstore 5, 2) := by decide +kernel
theorem dX0_putIn_45 : decode cX0_putIn 45 = .ok (.iconst 0, 1) := by decide +kernel
theorem dX0_putIn_46 : decode cX0_putIn 46 = .ok (.istore 7, 2) := by decide +kernel
theorem dX0_putIn_48 : decode cX0_putIn 48 = .ok (.iload 7, 2) := by decide +kernel
theorem dX0_putIn_50 : decode cX0_putIn 50 = .ok (.aload_n 0, 1) := by decide +kernel
theorem dX0_putIn_51 : decode cX0_putIn 51 = .ok (.getfield 21, 3) := by decide +kernel
theorem dX0_putIn_54 : decode cX0_putIn 54 = .ok (.if_icmp .ge 30, 3) := by decide +kernel
theorem dX0_putIn_57 : decode cX0_putIn 57 = .ok (.lload 5, 2) := by decide +kernel
theorem dX0_putIn_59 : decode cX0_putIn 59 = .ok (.aload_n 1, 1) := by decide +kernel
theorem dX0_putIn_60 : decode cX0_putIn 60 = .ok (.iload 7, 2) := by decide +kernel
theorem dX0_putIn_62 : decode cX0_putIn 62 = .ok (.laload, 1) := by decide +kernel
theorem dX0_putIn_63 : decode cX0_putIn 63 = .ok (.aload_n 0, 1) := by decide +kernel
theorem dX0_putIn_64 : decode cX0_putIn 64 = .ok (.getfield 26, 3) := by decide +kernel
theorem dX0_putIn_67 : decode cX0_putIn 67 = .ok (.iload 7, 2) := by decide +kernel
theorem dX0_putIn_69 : decode cX0_putIn 69 = .ok (.aaload, 1) := by decide +kernel
theorem dX0_putIn_70 : decode cX0_putIn 70 = .ok (.iload 4, 2) := by decide +kernel
theorem dX0_putIn_72 : decode cX0_putIn 72 = .ok (.iaload, 1) := by decide +kernel
theorem dX0_putIn_73 : decode cX0_putIn 73 = .ok (.i2l, 1) := by decide +kernel
theorem dX0_putIn_74 : decode cX0_putIn 74 = .ok (.lmul, 1) := by decide +kernel
theorem dX0_putIn_75 : decode cX0_putIn 75 = .ok (.ladd, 1) := by decide +kernel
theorem dX0_putIn_76 : decode cX0_putIn 76 = .ok (.lstore 5, 2) := by decide +kernel
theorem dX0_putIn_78 : decode cX0_putIn 78 = .ok (.iinc 7 1, 3) := by decide +kernel
theorem dX0_putIn_81 : decode cX0_putIn 81 = .ok (.goto (-33), 3) := by decide +kernel
theorem dX0_putIn_84 : decode cX0_putIn 84 = .ok (.aload_n 2, 1) := by decide +kernel
theorem dX0_putIn_85 : decode cX0_putIn 85 = .ok (.iload_n 3, 1) := by decide +kernel
theorem dX0_putIn_86 : decode cX0_putIn 86 = .ok (.lload 5, 2) := by decide +kernel
theorem dX0_putIn_88 : decode cX0_putIn 88 = .ok (.lastore, 1) := by decide +kernel
theorem dX0_putIn_89 : decode cX0_putIn 89 = .ok (.iinc 3 1, 3) := by decide +kernel
theorem dX0_putIn_92 : decode cX0_putIn 92 = .ok (.goto (-90), 3) := by decide +kernel
theorem dX0_putIn_95 : decode cX0_putIn 95 = .ok (.return_, 1) := by decide +kernel
theorem dX1_init_0 : decode cX1_init 0 = .ok (.aload_n 0, 1) := by decide +kernel
theorem dX1_init_1 : decode cX1_init 1 = .ok (.invokespecial 3, 3) := by decide +kernel
theorem dX1_init_4 : decode cX1_init 4 = .ok (.aload_n 0, 1) := by decide +kernel
theorem dX1_init_5 : decode cX1_init 5 = .ok (.iload_n 1, 1) := by decide +kernel
theorem dX1_init_6 : decode cX1_init 6 = .ok (.putfield 9, 3) := by decide +kernel
theorem dX1_init_9 : decode cX1_init 9 = .ok (.aload_n 0, 1) := by decide +kernel
theorem dX1_init_10 : decode cX1_init 10 = .ok (.new 15, 3) := by decide +kernel
theorem dX1_init_13 : decode cX1_init 13 = .ok (.dup, 1) := by decide +kernel
theorem dX1_init_14 : decode cX1_init 14 = .ok (.iload_n 1, 1) := by decide +kernel
theorem dX1_init_15 : decode cX1_init 15 = .ok (.iconst 1, 1) := by decide +kernel
theorem dX1_init_16 : decode cX1_init 16 = .ok (.iadd, 1) := by decide +kernel
theorem dX1_init_17 : decode cX1_init 17 = .ok (.invokespecial 17, 3) := by decide +kernel
theorem dX1_init_20 : decode cX1_init 20 = .ok (.putfield 20, 3) := by decide +kernel
theorem dX1_init_23 : decode cX1_init 23 = .ok (.aload_n 0, 1) := by decide +kernel
theorem dX1_init_24 : decode cX1_init 24 = .ok (.iload_n 1, 1) := by decide +kernel
theorem dX1_init_25 : decode cX1_init 25 = .ok (.newarray .int, 2) := by decide +kernel
theorem dX1_init_27 : decode cX1_init 27 = .ok (.putfield 24, 3) := by decide +kernel
theorem dX1_init_30 : decode cX1_init 30 = .ok (.aload_n 0, 1) := by decide +kernel
theorem dX1_init_31 : decode cX1_init 31 = .ok (.iload_n 1, 1) := by decide +kernel
theorem dX1_init_32 : decode cX1_init 32 = .ok (.newarray .int, 2) := by decide +kernel
theorem dX1_init_34 : decode cX1_init 34 = .ok (.putfield 28, 3) := by decide +kernel
theorem dX1_init_37 : decode cX1_init 37 = .ok (.aload_n 0, 1) := by decide +kernel
theorem dX1_init_38 : decode cX1_init 38 = .ok (.iload_n 1, 1) := by decide +kernel
theorem dX1_init_39 : decode cX1_init 39 = .ok (.newarray .int, 2) := by decide +kernel
theorem dX1_init_41 : decode cX1_init 41 = .ok (.putfield 31, 3) := by decide +kernel
theorem dX1_init_44 : decode cX1_init 44 = .ok (.aload_n 0, 1) := by decide +kernel
theorem dX1_init_45 : decode cX1_init 45 = .ok (.iload_n 1, 1) := by decide +kernel
theorem dX1_init_46 : decode cX1_init 46 = .ok (.newarray .int, 2) := by decide +kernel
theorem dX1_init_48 : decode cX1_init 48 = .ok (.putfield 34, 3) := by decide +kernel
theorem dX1_init_51 : decode cX1_init 51 = .ok (.aload_n 0, 1) := by decide +kernel
theorem dX1_init_52 : decode cX1_init 52 = .ok (.iload_n 1, 1) := by decide +kernel
theorem dX1_init_53 : decode cX1_init 53 = .ok (.newarray .boolean, 2) := by decide +kernel
theorem dX1_init_55 : decode cX1_init 55 = .ok (.putfield 37, 3) := by decide +kernel
theorem dX1_init_58 : decode cX1_init 58 = .ok (.aload_n 0, 1) := by decide +kernel
theorem dX1_init_59 : decode cX1_init 59 = .ok (.iload_n 1, 1) := by decide +kernel
theorem dX1_init_60 : decode cX1_init 60 = .ok (.newarray .long, 2) := by decide +kernel
theorem dX1_init_62 : decode cX1_init 62 = .ok (.putfield 41, 3) := by decide +kernel
theorem dX1_init_65 : decode cX1_init 65 = .ok (.aload_n 0, 1) := by decide +kernel
theorem dX1_init_66 : decode cX1_init 66 = .ok (.iload_n 1, 1) := by decide +kernel
theorem dX1_init_67 : decode cX1_init 67 = .ok (.newarray .int, 2) := by decide +kernel
theorem dX1_init_69 : decode cX1_init 69 = .ok (.putfield 45, 3) := by decide +kernel
theorem dX1_init_72 : decode cX1_init 72 = .ok (.aload_n 0, 1) := by decide +kernel
theorem dX1_init_73 : decode cX1_init 73 = .ok (.iload_n 1, 1) := by decide +kernel
theorem dX1_init_74 : decode cX1_init 74 = .ok (.newarray .int, 2) := by decide +kernel
theorem dX1_init_76 : decode cX1_init 76 = .ok (.putfield 48, 3) := by decide +kernel
theorem dX1_init_79 : decode cX1_init 79 = .ok (.aload_n 0, 1) := by decide +kernel
theorem dX1_init_80 : decode cX1_init 80 = .ok (.iload_n 1, 1) := by decide +kernel
theorem dX1_init_81 : decode cX1_init 81 = .ok (.iconst 3, 1) := by decide +kernel
theorem dX1_init_82 : decode cX1_init 82 = .ok (.multianewarray 51 2, 4) := by decide +kernel
theorem dX1_init_86 : decode cX1_init 86 = .ok (.putfield 53, 3) := by decide +kernel
theorem dX1_init_89 : decode cX1_init 89 = .ok (.aload_n 0, 1) := by decide +kernel
theorem dX1_init_90 : decode cX1_init 90 = .ok (.iload_n 1, 1) := by decide +kernel
theorem dX1_init_91 : decode cX1_init 91 = .ok (.iload_n 1, 1) := by decide +kernel
theorem dX1_init_92 : decode cX1_init 92 = .ok (.multianewarray 51 2, 4) := by decide +kernel
theorem dX1_init_96 : decode cX1_init 96 = .ok (.putfield 56, 3) := by decide +kernel
theorem dX1_init_99 : decode cX1_init 99 = .ok (.aload_n 0, 1) := by decide +kernel
theorem dX1_init_100 : decode cX1_init 100 = .ok (.iconst 0, 1) := by decide +kernel
theorem dX1_init_101 : decode cX1_init 101 = .ok (.putfield 59, 3) := by decide +kernel
theorem dX1_init_104 : decode cX1_init 104 = .ok (.return_, 1) := by decide +kernel
theorem dX1_hasVariable_0 : decode cX1_hasVariable 0 = .ok (.iload_n 1, 1) := by decide +kernel
theorem dX1_hasVariable_1 : decode cX1_hasVariable 1 = .ok (.ifCond .lt 15, 3) := by decide +kernel
theorem dX1_hasVariable_4 : decode cX1_hasVariable 4 = .ok (.iload_n 1, 1) := by decide +kernel
theorem dX1_hasVariable_5 : decode cX1_hasVariable 5 = .ok (.aload_n 0, 1) := by decide +kernel
theorem dX1_hasVariable_6 : decode cX1_hasVariable 6 = .ok (.getfield 9, 3) := by decide +kernel
theorem dX1_hasVariable_9 : decode cX1_hasVariable 9 = .ok (.if_icmp .ge 7, 3) := by decide +kernel
theorem dX1_hasVariable_12 : decode cX1_hasVariable 12 = .ok (.iconst 1, 1) := by decide +kernel
theorem dX1_hasVariable_13 : decode cX1_hasVariable 13 = .ok (.goto 4, 3) := by decide +kernel
theorem dX1_hasVariable_16 : decode cX1_hasVariable 16 = .ok (.iconst 0, 1) := by decide +kernel
theorem dX1_hasVariable_17 : decode cX1_hasVariable 17 = .ok (.ireturn, 1) := by decide +kernel
theorem dX1_clear_0 : decode cX1_clear 0 = .ok (.aload_n 0, 1) := by decide +kernel
theorem dX1_clear_1 : decode cX1_clear 1 = .ok (.iconst 0, 1) := by decide +kernel
theorem dX1_clear_2 : decode cX1_clear 2 = .ok (.putfield 59, 3) := by decide +kernel
theorem dX1_clear_5 : decode cX1_clear 5 = .ok (.aload_n 0, 1) := by decide +kernel
theorem dX1_clear_6 : decode cX1_clear 6 = .ok (.getfield 20, 3) := by decide +kernel
theorem dX1_clear_9 : decode cX1_clear 9 = .ok (.invokevirtual 62, 3) := by decide +kernel
theorem dX1_clear_12 : decode cX1_clear 12 = .ok (.return_, 1) := by decide +kernel
theorem dX1_add_0 : decode cX1_add 0 = .ok (.iconst 0, 1) := by decide +kernel
theorem dX1_add_1 : decode cX1_add 1 = .ok (.istore_n 2, 1) := by decide +kernel
theorem dX1_add_2 : decode cX1_add 2 = .ok (.iload_n 2, 1) := by decide +kernel
theorem dX1_add_3 : decode cX1_add 3 = .ok (.aload_n 0, 1) := by decide +kernel
theorem dX1_add_4 : decode cX1_add 4 = .ok (.getfield 9, 3) := by decide +kernel
theorem dX1_add_7 : decode cX1_add 7 = .ok (.if_icmp .ge 71, 3) := by decide +kernel
theorem dX1_add_10 : decode cX1_add 10 = .ok (.aload_n 0, 1) := by decide +kernel
theorem dX1_add_11 : decode cX1_add 11 = .ok (.getfield 59, 3) := by decide +kernel
theorem dX1_add_14 : decode cX1_add 14 = .ok (.ifCond .ne 14, 3) := by decide +kernel
theorem dX1_add_17 : decode cX1_add 17 = .ok (.aload_n 0, 1) := by decide +kernel
theorem dX1_add_18 : decode cX1_add 18 = .ok (.iload_n 2, 1) := by decide +kernel
theorem dX1_add_19 : decode cX1_add 19 = .ok (.aload_n 1, 1) := by decide +kernel
theorem dX1_add_20 : decode cX1_add 20 = .ok (.iload_n 2, 1) := by decide +kernel
theorem dX1_add_21 : decode cX1_add 21 = .ok (.iaload, 1) := by decide +kernel
theorem dX1_add_22 : decode cX1_add 22 = .ok (.invokevirtual 65, 3) := by decide +kernel
theorem dX1_add_25 : decode cX1_add 25 = .ok (.goto 11, 3) := by decide +kernel
theorem dX1_add_28 : decode cX1_add 28 = .ok (.aload_n 0, 1) := by decide +kernel
theorem dX1_add_29 : decode cX1_add 29 = .ok (.iload_n 2, 1) := by decide +kernel
theorem dX1_add_30 : decode cX1_add 30 = .ok (.aload_n 1, 1) := by decide +kernel
theorem dX1_add_31 : decode cX1_add 31 = .ok (.iload_n 2, 1) := by decide +kernel
theorem dX1_add_32 : decode cX1_add 32 = .ok (.iaload, 1) := by decide +kernel
theorem dX1_add_33 : decode cX1_add 33 = .ok (.invokevirtual 69, 3) := by decide +kernel
theorem dX1_add_36 : decode cX1_add 36 = .ok (.iconst 0, 1) := by decide +kernel
theorem dX1_add_37 : decode cX1_add 37 = .ok (.istore_n 3, 1) := by decide +kernel
theorem dX1_add_38 : decode cX1_add 38 = .ok (.iload_n 3, 1) := by decide +kernel
theorem dX1_add_39 : decode cX1_add 39 = .ok (.aload_n 0, 1) := by decide +kernel
theorem dX1_add_40 : decode cX1_add 40 = .ok (.getfield 9, 3) := by decide +kernel
theorem dX1_add_43 : decode cX1_add 43 = .ok (.if_icmp .ge 29, 3) := by decide +kernel
theorem dX1_add_46 : decode cX1_add 46 = .ok (.aload_n 0, 1) := by decide +kernel
theorem dX1_add_47 : decode cX1_add 47 = .ok (.getfield 56, 3) := by decide +kernel
theorem dX1_add_50 : decode cX1_add 50 = .ok (.iload_n 2, 1) := by decide +kernel
theorem dX1_add_51 : decode cX1_add 51 = .ok (.aaload, 1) := by decide +kernel
theorem dX1_add_52 : decode cX1_add 52 = .ok (.iload_n 3, 1) := by decide +kernel
theorem dX1_add_53 : decode cX1_add 53 = .ok (.dup2, 1) := by decide +kernel
theorem dX1_add_54 : decode cX1_add 54 = .ok (.iaload, 1) := by decide +kernel
theorem dX1_add_55 : decode cX1_add 55 = .ok (.aload_n 1, 1) := by decide +kernel
theorem dX1_add_56 : decode cX1_add 56 = .ok (.iload_n 2, 1) := by decide +kernel
theorem dX1_add_57 : decode cX1_add 57 = .ok (.iaload, 1) := by decide +kernel
theorem dX1_add_58 : decode cX1_add 58 = .ok (.aload_n 1, 1) := by decide +kernel
theorem dX1_add_59 : decode cX1_add 59 = .ok (.iload_n 3, 1) := by decide +kernel
theorem dX1_add_60 : decode cX1_add 60 = .ok (.iaload, 1) := by decide +kernel
theorem dX1_add_61 : decode cX1_add 61 = .ok (.invokestatic 72, 3) := by decide +kernel
theorem dX1_add_64 : decode cX1_add 64 = .ok (.ior, 1) := by decide +kernel
theorem dX1_add_65 : decode cX1_add 65 = .ok (.iastore, 1) := by decide +kernel
theorem dX1_add_66 : decode cX1_add 66 = .ok (.iinc 3 1, 3) := by decide +kernel
theorem dX1_add_69 : decode cX1_add 69 = .ok (.goto (-31), 3) := by decide +kernel
theorem dX1_add_72 : decode cX1_add 72 = .ok (.iinc 2 1, 3) := by decide +kernel
theorem dX1_add_75 : decode cX1_add 75 = .ok (.goto (-73), 3) := by decide +kernel
theorem dX1_add_78 : decode cX1_add 78 = .ok (.aload_n 0, 1) := by decide +kernel
theorem dX1_add_79 : decode cX1_add 79 = .ok (.getfield 20, 3) := by decide +kernel
theorem dX1_add_82 : decode cX1_add 82 = .ok (.aload_n 1, 1) := by decide +kernel
theorem dX1_add_83 : decode cX1_add 83 = .ok (.invokevirtual 76, 3) := by decide +kernel
theorem dX1_add_86 : decode cX1_add 86 = .ok (.aload_n 0, 1) := by decide +kernel
theorem dX1_add_87 : decode cX1_add 87 = .ok (.dup, 1) := by decide +kernel
theorem dX1_add_88 : decode cX1_add 88 = .ok (.getfield 59, 3) := by decide +kernel
theorem dX1_add_91 : decode cX1_add 91 = .ok (.iconst 1, 1) := by decide +kernel
theorem dX1_add_92 : decode cX1_add 92 = .ok (.iadd, 1) := by decide +kernel
theorem dX1_add_93 : decode cX1_add 93 = .ok (.putfield 59, 3) := by decide +kernel
theorem dX1_add_96 : decode cX1_add 96 = .ok (.return_, 1) := by decide +kernel
theorem dX1_begin_0 : decode cX1_begin 0 = .ok (.aload_n 0, 1) := by decide +kernel
theorem dX1_begin_1 : decode cX1_begin 1 = .ok (.getfield 24, 3) := by decide +kernel
theorem dX1_begin_4 : decode cX1_begin 4 = .ok (.iload_n 1, 1) := by decide +kernel
theorem dX1_begin_5 : decode cX1_begin 5 = .ok (.iload_n 2, 1) := by decide +kernel
theorem dX1_begin_6 : decode cX1_begin 6 = .ok (.iastore, 1) := by decide +kernel
theorem dX1_begin_7 : decode cX1_begin 7 = .ok (.aload_n 0, 1) := by decide +kernel
theorem dX1_begin_8 : decode cX1_begin 8 = .ok (.getfield 28, 3) := by decide +kernel
theorem dX1_begin_11 : decode cX1_begin 11 = .ok (.iload_n 1, 1) := by decide +kernel
theorem dX1_begin_12 : decode cX1_begin 12 = .ok (.iload_n 2, 1) := by decide +kernel
theorem dX1_begin_13 : decode cX1_begin 13 = .ok (.iastore, 1) := by decide +kernel
theorem dX1_begin_14 : decode cX1_begin 14 = .ok (.aload_n 0, 1) := by decide +kernel
theorem dX1_begin_15 : decode cX1_begin 15 = .ok (.getfield 31, 3) := by decide +kernel
theorem dX1_begin_18 : decode cX1_begin 18 = .ok (.iload_n 1, 1) := by decide +kernel
theorem dX1_begin_19 : decode cX1_begin 19 = .ok (.iload_n 2, 1) := by decide +kernel
theorem dX1_begin_20 : decode cX1_begin 20 = .ok (.iastore, 1) := by decide +kernel
theorem dX1_begin_21 : decode cX1_begin 21 = .ok (.aload_n 0, 1) := by decide +kernel
theorem dX1_begin_22 : decode cX1_begin 22 = .ok (.getfield 34, 3) := by decide +kernel
theorem dX1_begin_25 : decode cX1_begin 25 = .ok (.iload_n 1, 1) := by decide +kernel
theorem dX1_begin_26 : decode cX1_begin 26 = .ok (.iload_n 2, 1) := by decide +kernel
theorem dX1_begin_27 : decode cX1_begin 27 = .ok (.iastore, 1) := by decide +kernel
theorem dX1_begin_28 : decode cX1_begin 28 = .ok (.aload_n 0, 1) := by decide +kernel
theorem dX1_begin_29 : decode cX1_begin 29 = .ok (.getfield 37, 3) := by decide +kernel
theorem dX1_begin_32 : decode cX1_begin 32 = .ok (.iload_n 1, 1) := by decide +kernel
theorem dX1_begin_33 : decode cX1_begin 33 = .ok (.iconst 0, 1) := by decide +kernel
theorem dX1_begin_34 : decode cX1_begin 34 = .ok (.bastore, 1) := by decide +kernel
theorem dX1_begin_35 : decode cX1_begin 35 = .ok (.aload_n 0, 1) := by decide +kernel
theorem dX1_begin_36 : decode cX1_begin 36 = .ok (.getfield 41, 3) := by decide +kernel
theorem dX1_begin_39 : decode cX1_begin 39 = .ok (.iload_n 1, 1) := by decide +kernel
theorem dX1_begin_40 : decode cX1_begin 40 = .ok (.lconst 0, 1) := by decide +kernel
theorem dX1_begin_41 : decode cX1_begin 41 = .ok (.lastore, 1) := by decide +kernel
theorem dX1_begin_42 : decode cX1_begin 42 = .ok (.aload_n 0, 1) := by decide +kernel
theorem dX1_begin_43 : decode cX1_begin 43 = .ok (.getfield 45, 3) := by decide +kernel
theorem dX1_begin_46 : decode cX1_begin 46 = .ok (.iload_n 1, 1) := by decide +kernel
theorem dX1_begin_47 : decode cX1_begin 47 = .ok (.bipush 12, 2) := by decide +kernel
theorem dX1_begin_49 : decode cX1_begin 49 = .ok (.iastore, 1) := by decide +kernel
theorem dX1_begin_50 : decode cX1_begin 50 = .ok (.aload_n 0, 1) := by decide +kernel
theorem dX1_begin_51 : decode cX1_begin 51 = .ok (.getfield 48, 3) := by decide +kernel
theorem dX1_begin_54 : decode cX1_begin 54 = .ok (.iload_n 1, 1) := by decide +kernel
theorem dX1_begin_55 : decode cX1_begin 55 = .ok (.iconst 1, 1) := by decide +kernel
theorem dX1_begin_56 : decode cX1_begin 56 = .ok (.iastore, 1) := by decide +kernel
theorem dX1_begin_57 : decode cX1_begin 57 = .ok (.aload_n 0, 1) := by decide +kernel
theorem dX1_begin_58 : decode cX1_begin 58 = .ok (.getfield 53, 3) := by decide +kernel
theorem dX1_begin_61 : decode cX1_begin 61 = .ok (.iload_n 1, 1) := by decide +kernel
theorem dX1_begin_62 : decode cX1_begin 62 = .ok (.aaload, 1) := by decide +kernel
theorem dX1_begin_63 : decode cX1_begin 63 = .ok (.iconst 0, 1) := by decide +kernel
theorem dX1_begin_64 : decode cX1_begin 64 = .ok (.iload_n 2, 1) := by decide +kernel
theorem dX1_begin_65 : decode cX1_begin 65 = .ok (.iastore, 1) := by decide +kernel
theorem dX1_begin_66 : decode cX1_begin 66 = .ok (.iconst 0, 1) := by decide +kernel
theorem dX1_begin_67 : decode cX1_begin 67 = .ok (.istore_n 3, 1) := by decide +kernel
theorem dX1_begin_68 : decode cX1_begin 68 = .ok (.iload_n 3, 1) := by decide +kernel
theorem dX1_begin_69 : decode cX1_begin 69 = .ok (.aload_n 0, 1) := by decide +kernel
theorem dX1_begin_70 : decode cX1_begin 70 = .ok (.getfield 9, 3) := by decide +kernel
theorem dX1_begin_73 : decode cX1_begin 73 = .ok (.if_icmp .ge 18, 3) := by decide +kernel
theorem dX1_begin_76 : decode cX1_begin 76 = .ok (.aload_n 0, 1) := by decide +kernel
theorem dX1_begin_77 : decode cX1_begin 77 = .ok (.getfield 56, 3) := by decide +kernel
theorem dX1_begin_80 : decode cX1_begin 80 = .ok (.iload_n 1, 1) := by decide +kernel
theorem dX1_begin_81 : decode cX1_begin 81 = .ok (.aaload, 1) := by decide +kernel
theorem dX1_begin_82 : decode cX1_begin 82 = .ok (.iload_n 3, 1) := by decide +kernel
theorem dX1_begin_83 : decode cX1_begin 83 = .ok (.iconst 0, 1) := by decide +kernel
theorem dX1_begin_84 : decode cX1_begin 84 = .ok (.iastore, 1) := by decide +kernel
theorem dX1_begin_85 : decode cX1_begin 85 = .ok (.iinc 3 1, 3) := by decide +kernel
theorem dX1_begin_88 : decode cX1_begin 88 = .ok (.goto (-20), 3) := by decide +kernel
theorem dX1_begin_91 : decode cX1_begin 91 = .ok (.return_, 1) := by decide +kernel
theorem dX1_goOn_0 : decode cX1_goOn 0 = .ok (.iload_n 2, 1) := by decide +kernel
theorem dX1_goOn_1 : decode cX1_goOn 1 = .ok (.aload_n 0, 1) := by decide +kernel
theorem dX1_goOn_2 : decode cX1_goOn 2 = .ok (.getfield 28, 3) := by decide +kernel
theorem dX1_goOn_5 : decode cX1_goOn 5 = .ok (.iload_n 1, 1) := by decide +kernel
theorem dX1_goOn_6 : decode cX1_goOn 6 = .ok (.iaload, 1) := by decide +kernel
theorem dX1_goOn_7 : decode cX1_goOn 7 = .ok (.if_icmp .ge 10, 3) := by decide +kernel
theorem dX1_goOn_10 : decode cX1_goOn 10 = .ok (.aload_n 0, 1) := by decide +kernel
theorem dX1_goOn_11 : decode cX1_goOn 11 = .ok (.getfield 37, 3) := by decide +kernel
theorem dX1_goOn_14 : decode cX1_goOn 14 = .ok (.iload_n 1, 1) := by decide +kernel
theorem dX1_goOn_15 : decode cX1_goOn 15 = .ok (.iconst 1, 1) := by decide +kernel
theorem dX1_goOn_16 : decode cX1_goOn 16 = .ok (.bastore, 1) := by decide +kernel
theorem dX1_goOn_17 : decode cX1_goOn 17 = .ok (.aload_n 0, 1) := by decide +kernel
theorem dX1_goOn_18 : decode cX1_goOn 18 = .ok (.getfield 28, 3) := by decide +kernel
theorem dX1_goOn_21 : decode cX1_goOn 21 = .ok (.iload_n 1, 1) := by decide +kernel
theorem dX1_goOn_22 : decode cX1_goOn 22 = .ok (.iload_n 2, 1) := by decide +kernel
theorem dX1_goOn_23 : decode cX1_goOn 23 = .ok (.iastore, 1) := by decide +kernel
theorem dX1_goOn_24 : decode cX1_goOn 24 = .ok (.aload_n 0, 1) := by decide +kernel
theorem dX1_goOn_25 : decode cX1_goOn 25 = .ok (.getfield 31, 3) := by decide +kernel
theorem dX1_goOn_28 : decode cX1_goOn 28 = .ok (.iload_n 1, 1) := by decide +kernel
theorem dX1_goOn_29 : decode cX1_goOn 29 = .ok (.aload_n 0, 1) := by decide +kernel
theorem dX1_goOn_30 : decode cX1_goOn 30 = .ok (.getfield 31, 3) := by decide +kernel
theorem dX1_goOn_33 : decode cX1_goOn 33 = .ok (.iload_n 1, 1) := by decide +kernel
theorem dX1_goOn_34 : decode cX1_goOn 34 = .ok (.iaload, 1) := by decide +kernel
theorem dX1_goOn_35 : decode cX1_goOn 35 = .ok (.iload_n 2, 1) := by decide +kernel
theorem dX1_goOn_36 : decode cX1_goOn 36 = .ok (.invokestatic 80, 3) := by decide +kernel
theorem dX1_goOn_39 : decode cX1_goOn 39 = .ok (.iastore, 1) := by decide +kernel
theorem dX1_goOn_40 : decode cX1_goOn 40 = .ok (.aload_n 0, 1) := by decide +kernel
theorem dX1_goOn_41 : decode cX1_goOn 41 = .ok (.getfield 34, 3) := by decide +kernel
theorem dX1_goOn_44 : decode cX1_goOn 44 = .ok (.iload_n 1, 1) := by decide +kernel
theorem dX1_goOn_45 : decode cX1_goOn 45 = .ok (.aload_n 0, 1) := by decide +kernel
theorem dX1_goOn_46 : decode cX1_goOn 46 = .ok (.getfield 34, 3) := by decide +kernel
theorem dX1_goOn_49 : decode cX1_goOn 49 = .ok (.iload_n 1, 1) := by decide +kernel
theorem dX1_goOn_50 : decode cX1_goOn 50 = .ok (.iaload, 1) := by decide +kernel
theorem dX1_goOn_51 : decode cX1_goOn 51 = .ok (.iload_n 2, 1) := by decide +kernel
theorem dX1_goOn_52 : decode cX1_goOn 52 = .ok (.invokestatic 85, 3) := by decide +kernel
theorem dX1_goOn_55 : decode cX1_goOn 55 = .ok (.iastore, 1) := by decide +kernel
theorem dX1_goOn_56 : decode cX1_goOn 56 = .ok (.aload_n 0, 1) := by decide +kernel
theorem dX1_goOn_57 : decode cX1_goOn 57 = .ok (.getfield 41, 3) := by decide +kernel
theorem dX1_goOn_60 : decode cX1_goOn 60 = .ok (.iload_n 1, 1) := by decide +kernel
theorem dX1_goOn_61 : decode cX1_goOn 61 = .ok (.aload_n 0, 1) := by decide +kernel
theorem dX1_goOn_62 : decode cX1_goOn 62 = .ok (.getfield 41, 3) := by decide +kernel
theorem dX1_goOn_65 : decode cX1_goOn 65 = .ok (.iload_n 1, 1) := by decide +kernel
theorem dX1_goOn_66 : decode cX1_goOn 66 = .ok (.laload, 1) := by decide +kernel
theorem dX1_goOn_67 : decode cX1_goOn 67 = .ok (.iload_n 2, 1) := by decide +kernel
theorem dX1_goOn_68 : decode cX1_goOn 68 = .ok (.aload_n 0, 1) := by decide +kernel
theorem dX1_goOn_69 : decode cX1_goOn 69 = .ok (.getfield 24, 3) := by decide +kernel
theorem dX1_goOn_72 : decode cX1_goOn 72 = .ok (.iload_n 1, 1) := by decide +kernel
theorem dX1_goOn_73 : decode cX1_goOn 73 = .ok (.iaload, 1) := by decide +kernel
theorem dX1_goOn_74 : decode cX1_goOn 74 = .ok (.isub, 1) := by decide +kernel
theorem dX1_goOn_75 : decode cX1_goOn 75 = .ok (.i2l, 1) := by decide +kernel
theorem dX1_goOn_76 : decode cX1_goOn 76 = .ok (.invokestatic 88, 3) := by decide +kernel
theorem dX1_goOn_79 : decode cX1_goOn 79 = .ok (.lastore, 1) := by decide +kernel
theorem dX1_goOn_80 : decode cX1_goOn 80 = .ok (.aload_n 0, 1) := by decide +kernel
theorem dX1_goOn_81 : decode cX1_goOn 81 = .ok (.getfield 45, 3) := by decide +kernel
theorem dX1_goOn_84 : decode cX1_goOn 84 = .ok (.iload_n 1, 1) := by decide +kernel
theorem dX1_goOn_85 : decode cX1_goOn 85 = .ok (.aload_n 0, 1) := by decide +kernel
theorem dX1_goOn_86 : decode cX1_goOn 86 = .ok (.getfield 41, 3) := by decide +kernel
theorem dX1_goOn_89 : decode cX1_goOn 89 = .ok (.iload_n 1, 1) := by decide +kernel
theorem dX1_goOn_90 : decode cX1_goOn 90 = .ok (.laload, 1) := by decide +kernel
theorem dX1_goOn_91 : decode cX1_goOn 91 = .ok (.invokestatic 92, 3) := by decide +kernel
theorem dX1_goOn_94 : decode cX1_goOn 94 = .ok (.iastore, 1) := by decide +kernel
theorem dX1_goOn_95 : decode cX1_goOn 95 = .ok (.aload_n 0, 1) := by decide +kernel
theorem dX1_goOn_96 : decode cX1_goOn 96 = .ok (.iload_n 1, 1) := by decide +kernel
theorem dX1_goOn_97 : decode cX1_goOn 97 = .ok (.iload_n 2, 1) := by decide +kernel
theorem dX1_goOn_98 : decode cX1_goOn 98 = .ok (.invokevirtual 96, 3) := by decide +kernel
theorem dX1_goOn_101 : decode cX1_goOn 101 = .ok (.return_, 1) := by decide +kernel
theorem dX1_greatestModulus_0 : decode cX1_greatestModulus 0 = .ok (.bipush 12, 2) := by decide +kernel
theorem dX1_greatestModulus_2 : decode cX1_greatestModulus 2 = .ok (.istore_n 2, 1) := by decide +kernel
theorem dX1_greatestModulus_3 : decode cX1_greatestModulus 3 = .ok (.iload_n 2, 1) := by decide +kernel
theorem dX1_greatestModulus_4 : decode cX1_greatestModulus 4 = .ok (.iconst 2, 1) := by decide +kernel
theorem dX1_greatestModulus_5 : decode cX1_greatestModulus 5 = .ok (.if_icmp .lt 20, 3) := by decide +kernel
theorem dX1_greatestModulus_8 : decode cX1_greatestModulus 8 = .ok (.lload_n 0, 1) := by decide +kernel
theorem dX1_greatestModulus_9 : decode cX1_greatestModulus 9 = .ok (.iload_n 2, 1) := by decide +kernel
theorem dX1_greatestModulus_10 : decode cX1_greatestModulus 10 = .ok (.i2l, 1) := by decide +kernel
theorem dX1_greatestModulus_11 : decode cX1_greatestModulus 11 = .ok (.lrem, 1) := by decide +kernel
theorem dX1_greatestModulus_12 : decode cX1_greatestModulus 12 = .ok (.lconst 0, 1) := by decide +kernel
theorem dX1_greatestModulus_13 : decode cX1_greatestModulus 13 = .ok (.lcmp, 1) := by decide +kernel
theorem dX1_greatestModulus_14 : decode cX1_greatestModulus 14 = .ok (.ifCond .ne 5, 3) := by decide +kernel
theorem dX1_greatestModulus_17 : decode cX1_greatestModulus 17 = .ok (.iload_n 2, 1) := by decide +kernel
theorem dX1_greatestModulus_18 : decode cX1_greatestModulus 18 = .ok (.ireturn, 1) := by decide +kernel
theorem dX1_greatestModulus_19 : decode cX1_greatestModulus 19 = .ok (.iinc 2 (-1), 3) := by decide +kernel
theorem dX1_greatestModulus_22 : decode cX1_greatestModulus 22 = .ok (.goto (-19), 3) := by decide +kernel
theorem dX1_greatestModulus_25 : decode cX1_greatestModulus 25 = .ok (.iconst 0, 1) := by decide +kernel
theorem dX1_greatestModulus_26 : decode cX1_greatestModulus 26 = .ok (.ireturn, 1) := by decide +kernel
theorem dX1_noteNumber_0 : decode cX1_noteNumber 0 = .ok (.aload_n 0, 1) := by decide +kernel
theorem dX1_noteNumber_1 : decode cX1_noteNumber 1 = .ok (.getfield 48, 3) := by decide +kernel
theorem dX1_noteNumber_4 : decode cX1_noteNumber 4 = .ok (.iload_n 1, 1) := by decide +kernel
theorem dX1_noteNumber_5 : decode cX1_noteNumber 5 = .ok (.iaload, 1) := by decide +kernel
theorem dX1_noteNumber_6 : decode cX1_noteNumber 6 = .ok (.iconst 3, 1) := by decide +kernel
theorem dX1_noteNumber_7 : decode cX1_noteNumber 7 = .ok (.if_icmp .gt 12, 3) := by decide +kernel
theorem dX1_noteNumber_10 : decode cX1_noteNumber 10 = .ok (.aload_n 0, 1) := by decide +kernel
theorem dX1_noteNumber_11 : decode cX1_noteNumber 11 = .ok (.iload_n 1, 1) := by decide +kernel
theorem dX1_noteNumber_12 : decode cX1_noteNumber 12 = .ok (.iload_n 2, 1) := by decide +kernel
theorem dX1_noteNumber_13 : decode cX1_noteNumber 13 = .ok (.invokevirtual 99, 3) := by decide +kernel
theorem dX1_noteNumber_16 : decode cX1_noteNumber 16 = .ok (.ifCond .eq 4, 3) := by decide +kernel
theorem dX1_noteNumber_19 : decode cX1_noteNumber 19 = .ok (.return_, 1) := by decide +kernel
theorem dX1_noteNumber_20 : decode cX1_noteNumber 20 = .ok (.aload_n 0, 1) := by decide +kernel
theorem dX1_noteNumber_21 : decode cX1_noteNumber 21 = .ok (.getfield 48, 3) := by decide +kernel
theorem dX1_noteNumber_24 : decode cX1_noteNumber 24 = .ok (.iload_n 1, 1) := by decide +kernel
theorem dX1_noteNumber_25 : decode cX1_noteNumber 25 = .ok (.iaload, 1) := by decide +kernel
theorem dX1_noteNumber_26 : decode cX1_noteNumber 26 = .ok (.istore_n 3, 1) := by decide +kernel
theorem dX1_noteNumber_27 : decode cX1_noteNumber 27 = .ok (.aload_n 0, 1) := by decide +kernel
theorem dX1_noteNumber_28 : decode cX1_noteNumber 28 = .ok (.getfield 48, 3) := by decide +kernel
theorem dX1_noteNumber_31 : decode cX1_noteNumber 31 = .ok (.iload_n 1, 1) := by decide +kernel
theorem dX1_noteNumber_32 : decode cX1_noteNumber 32 = .ok (.dup2, 1) := by decide +kernel
theorem dX1_noteNumber_33 : decode cX1_noteNumber 33 = .ok (.iaload, 1) := by decide +kernel
theorem dX1_noteNumber_34 : decode cX1_noteNumber 34 = .ok (.iconst 1, 1) := by decide +kernel
theorem dX1_noteNumber_35 : decode cX1_noteNumber 35 = .ok (.iadd, 1) := by decide +kernel
theorem dX1_noteNumber_36 : decode cX1_noteNumber 36 = .ok (.iastore, 1) := by decide +kernel
theorem dX1_noteNumber_37 : decode cX1_noteNumber 37 = .ok (.iload_n 3, 1) := by decide +kernel
theorem dX1_noteNumber_38 : decode cX1_noteNumber 38 = .ok (.iconst 3, 1) := by decide +kernel
theorem dX1_noteNumber_39 : decode cX1_noteNumber 39 = .ok (.if_icmp .lt 4, 3) := by decide +kernel
theorem dX1_noteNumber_42 : decode cX1_noteNumber 42 = .ok (.return_, 1) := by decide +kernel
theorem dX1_noteNumber_43 : decode cX1_noteNumber 43 = .ok (.aload_n 0, 1) := by decide +kernel
theorem dX1_noteNumber_44 : decode cX1_noteNumber 44 = .ok (.getfield 53, 3) := by decide +kernel
theorem dX1_noteNumber_47 : decode cX1_noteNumber 47 = .ok (.iload_n 1, 1) := by decide +kernel
theorem dX1_noteNumber_48 : decode cX1_noteNumber 48 = .ok (.aaload, 1) := by decide +kernel
theorem dX1_noteNumber_49 : decode cX1_noteNumber 49 = .ok (.astore 4, 2) := by decide +kernel
theorem dX1_noteNumber_51 : decode cX1_noteNumber 51 = .ok (.iload_n 3, 1) := by decide +kernel
theorem dX1_noteNumber_52 : decode cX1_noteNumber 52 = .ok (.ifCond .le 29, 3) := by decide +kernel
theorem dX1_noteNumber_55 : decode cX1_noteNumber 55 = .ok (.aload 4, 2) := by decide +kernel
theorem dX1_noteNumber_57 : decode cX1_noteNumber 57 = .ok (.iload_n 3, 1) := by decide +kernel
theorem dX1_noteNumber_58 : decode cX1_noteNumber 58 = .ok (.iconst 1, 1) := by decide +kernel
theorem dX1_noteNumber_59 : decode cX1_noteNumber 59 = .ok (.isub, 1) := by decide +kernel
theorem dX1_noteNumber_60 : decode cX1_noteNumber 60 = .ok (.iaload, 1) := by decide +kernel
theorem dX1_noteNumber_61 : decode cX1_noteNumber 61 = .ok (.iload_n 2, 1) := by decide +kernel
theorem dX1_noteNumber_62 : decode cX1_noteNumber 62 = .ok (.if_icmp .le 19, 3) := by decide +kernel
theorem dX1_noteNumber_65 : decode cX1_noteNumber 65 = .ok (.aload 4, 2) := by decide +kernel
theorem dX1_noteNumber_67 : decode cX1_noteNumber 67 = .ok (.iload_n 3, 1) := by decide +kernel
theorem dX1_noteNumber_68 : decode cX1_noteNumber 68 = .ok (.aload 4, 2) := by decide +kernel
theorem dX1_noteNumber_70 : decode cX1_noteNumber 70 = .ok (.iload_n 3, 1) := by decide +kernel
theorem dX1_noteNumber_71 : decode cX1_noteNumber 71 = .ok (.iconst 1, 1) := by decide +kernel
theorem dX1_noteNumber_72 : decode cX1_noteNumber 72 = .ok (.isub, 1) := by decide +kernel
theorem dX1_noteNumber_73 : decode cX1_noteNumber 73 = .ok (.iaload, 1) := by decide +kernel
theorem dX1_noteNumber_74 : decode cX1_noteNumber 74 = .ok (.iastore, 1) := by decide +kernel
theorem dX1_noteNumber_75 : decode cX1_noteNumber 75 = .ok (.iinc 3 (-1), 3) := by decide +kernel
theorem dX1_noteNumber_78 : decode cX1_noteNumber 78 = .ok (.goto (-27), 3) := by decide +kernel
theorem dX1_noteNumber_81 : decode cX1_noteNumber 81 = .ok (.aload 4, 2) := by decide +kernel
theorem dX1_noteNumber_83 : decode cX1_noteNumber 83 = .ok (.iload_n 3, 1) := by decide +kernel
theorem dX1_noteNumber_84 : decode cX1_noteNumber 84 = .ok (.iload_n 2, 1) := by decide +kernel
theorem dX1_noteNumber_85 : decode cX1_noteNumber 85 = .ok (.iastore, 1) := by decide +kernel
theorem dX1_noteNumber_86 : decode cX1_noteNumber 86 = .ok (.return_, 1) := by decide +kernel
theorem dX1_isAmongFew_0 : decode cX1_isAmongFew 0 = .ok (.iconst 0, 1) := by decide +kernel
theorem dX1_isAmongFew_1 : decode cX1_isAmongFew 1 = .ok (.istore_n 3, 1) := by decide +kernel
theorem dX1_isAmongFew_2 : decode cX1_isAmongFew 2 = .ok (.iload_n 3, 1) := by decide +kernel
theorem dX1_isAmongFew_3 : decode cX1_isAmongFew 3 = .ok (.aload_n 0, 1) := by decide +kernel
theorem dX1_isAmongFew_4 : decode cX1_isAmongFew 4 = .ok (.getfield 48, 3) := by decide +kernel
theorem dX1_isAmongFew_7 : decode cX1_isAmongFew 7 = .ok (.iload_n 1, 1) := by decide +kernel
theorem dX1_isAmongFew_8 : decode cX1_isAmongFew 8 = .ok (.iaload, 1) := by decide +kernel
theorem dX1_isAmongFew_9 : decode cX1_isAmongFew 9 = .ok (.if_icmp .ge 28, 3) := by decide +kernel
theorem dX1_isAmongFew_12 : decode cX1_isAmongFew 12 = .ok (.iload_n 3, 1) := by decide +kernel
theorem dX1_isAmongFew_13 : decode cX1_isAmongFew 13 = .ok (.iconst 3, 1) := by decide +kernel
theorem dX1_isAmongFew_14 : decode cX1_isAmongFew 14 = .ok (.if_icmp .ge 23, 3) := by decide +kernel
theorem dX1_isAmongFew_17 : decode cX1_isAmongFew 17 = .ok (.aload_n 0, 1) := by decide +kernel
theorem dX1_isAmongFew_18 : decode cX1_isAmongFew 18 = .ok (.getfield 53, 3) := by decide +kernel
theorem dX1_isAmongFew_21 : decode cX1_isAmongFew 21 = .ok (.iload_n 1, 1) := by decide +kernel
theorem dX1_isAmongFew_22 : decode cX1_isAmongFew 22 = .ok (.aaload, 1) := by decide +kernel
theorem dX1_isAmongFew_23 : decode cX1_isAmongFew 23 = .ok (.iload_n 3, 1) := by decide +kernel
theorem dX1_isAmongFew_24 : decode cX1_isAmongFew 24 = .ok (.iaload, 1) := by decide +kernel
theorem dX1_isAmongFew_25 : decode cX1_isAmongFew 25 = .ok (.iload_n 2, 1) := by decide +kernel
theorem dX1_isAmongFew_26 : decode cX1_isAmongFew 26 = .ok (.if_icmp .ne 5, 3) := by decide +kernel
theorem dX1_isAmongFew_29 : decode cX1_isAmongFew 29 = .ok (.iconst 1, 1) := by decide +kernel
theorem dX1_isAmongFew_30 : decode cX1_isAmongFew 30 = .ok (.ireturn, 1) := by decide +kernel
theorem dX1_isAmongFew_31 : decode cX1_isAmongFew 31 = .ok (.iinc 3 1, 3) := by decide +kernel
theorem dX1_isAmongFew_34 : decode cX1_isAmongFew 34 = .ok (.goto (-32), 3) := by decide +kernel
theorem dX1_isAmongFew_37 : decode cX1_isAmongFew 37 = .ok (.iconst 0, 1) := by decide +kernel
theorem dX1_isAmongFew_38 : decode cX1_isAmongFew 38 = .ok (.ireturn, 1) := by decide +kernel
theorem dX1_stands_0 : decode cX1_stands 0 = .ok (.aload_n 0, 1) := by decide +kernel
theorem dX1_stands_1 : decode cX1_stands 1 = .ok (.getfield 59, 3) := by decide +kernel
theorem dX1_stands_4 : decode cX1_stands 4 = .ok (.ifCond .eq 19, 3) := by decide +kernel
theorem dX1_stands_7 : decode cX1_stands 7 = .ok (.aload_n 0, 1) := by decide +kernel
theorem dX1_stands_8 : decode cX1_stands 8 = .ok (.iload_n 2, 1) := by decide +kernel
theorem dX1_stands_9 : decode cX1_stands 9 = .ok (.invokevirtual 103, 3) := by decide +kernel
theorem dX1_stands_12 : decode cX1_stands 12 = .ok (.ifCond .eq 11, 3) := by decide +kernel
theorem dX1_stands_15 : decode cX1_stands 15 = .ok (.aload_n 0, 1) := by decide +kernel
theorem dX1_stands_16 : decode cX1_stands 16 = .ok (.iload_n 3, 1) := by decide +kernel
theorem dX1_stands_17 : decode cX1_stands 17 = .ok (.invokevirtual 103, 3) := by decide +kernel
theorem dX1_stands_20 : decode cX1_stands 20 = .ok (.ifCond .ne 5, 3) := by decide +kernel
theorem dX1_stands_23 : decode cX1_stands 23 = .ok (.iconst 0, 1) := by decide +kernel
theorem dX1_stands_24 : decode cX1_stands 24 = .ok (.ireturn, 1) := by decide +kernel
theorem dX1_stands_25 : decode cX1_stands 25 = .ok (.iload_n 1, 1) := by decide +kernel
theorem dX1_stands_26 : decode cX1_stands 26 = .ok (.tableswitch 128 0 9 #[54, 70, 96, 96, 98, 128, 128, 128, 128, 113], 54) := by decide +kernel
theorem dX1_stands_80 : decode cX1_stands 80 = .ok (.aload_n 0, 1) := by decide +kernel
theorem dX1_stands_81 : decode cX1_stands 81 = .ok (.getfield 48, 3) := by decide +kernel
theorem dX1_stands_84 : decode cX1_stands 84 = .ok (.iload_n 2, 1) := by decide +kernel
theorem dX1_stands_85 : decode cX1_stands 85 = .ok (.iaload, 1) := by decide +kernel
theorem dX1_stands_86 : decode cX1_stands 86 = .ok (.iconst 1, 1) := by decide +kernel
theorem dX1_stands_87 : decode cX1_stands 87 = .ok (.if_icmp .ne 7, 3) := by decide +kernel
theorem dX1_stands_90 : decode cX1_stands 90 = .ok (.iconst 1, 1) := by decide +kernel
theorem dX1_stands_91 : decode cX1_stands 91 = .ok (.goto 4, 3) := by decide +kernel
theorem dX1_stands_94 : decode cX1_stands 94 = .ok (.iconst 0, 1) := by decide +kernel
theorem dX1_stands_95 : decode cX1_stands 95 = .ok (.ireturn, 1) := by decide +kernel
theorem dX1_stands_96 : decode cX1_stands 96 = .ok (.aload_n 0, 1) := by decide +kernel
theorem dX1_stands_97 : decode cX1_stands 97 = .ok (.getfield 48, 3) := by decide +kernel
theorem dX1_stands_100 : decode cX1_stands 100 = .ok (.iload_n 2, 1) := by decide +kernel
theorem dX1_stands_101 : decode cX1_stands 101 = .ok (.iaload, 1) := by decide +kernel
theorem dX1_stands_102 : decode cX1_stands 102 = .ok (.iconst 1, 1) := by decide +kernel
theorem dX1_stands_103 : decode cX1_stands 103 = .ok (.if_icmp .le 17, 3) := by decide +kernel
theorem dX1_stands_106 : decode cX1_stands 106 = .ok (.aload_n 0, 1) := by decide +kernel
theorem dX1_stands_107 : decode cX1_stands 107 = .ok (.getfield 48, 3) := by decide +kernel
theorem dX1_stands_110 : decode cX1_stands 110 = .ok (.iload_n 2, 1) := by decide +kernel
theorem dX1_stands_111 : decode cX1_stands 111 = .ok (.iaload, 1) := by decide +kernel
theorem dX1_stands_112 : decode cX1_stands 112 = .ok (.iconst 3, 1) := by decide +kernel
theorem dX1_stands_113 : decode cX1_stands 113 = .ok (.if_icmp .gt 7, 3) := by decide +kernel
theorem dX1_stands_116 : decode cX1_stands 116 = .ok (.iconst 1, 1) := by decide +kernel
theorem dX1_stands_117 : decode cX1_stands 117 = .ok (.goto 4, 3) := by decide +kernel
theorem dX1_stands_120 : decode cX1_stands 120 = .ok (.iconst 0, 1) := by decide +kernel
theorem dX1_stands_121 : decode cX1_stands 121 = .ok (.ireturn, 1) := by decide +kernel
theorem dX1_stands_122 : decode cX1_stands 122 = .ok (.iconst 1, 1) := by decide +kernel
theorem dX1_stands_123 : decode cX1_stands 123 = .ok (.ireturn, 1) := by decide +kernel
theorem dX1_stands_124 : decode cX1_stands 124 = .ok (.aload_n 0, 1) := by decide +kernel
theorem dX1_stands_125 : decode cX1_stands 125 = .ok (.getfield 45, 3) := by decide +kernel
theorem dX1_stands_128 : decode cX1_stands 128 = .ok (.iload_n 2, 1) := by decide +kernel
theorem dX1_stands_129 : decode cX1_stands 129 = .ok (.iaload, 1) := by decide +kernel
theorem dX1_stands_130 : decode cX1_stands 130 = .ok (.ifCond .le 7, 3) := by decide +kernel
theorem dX1_stands_133 : decode cX1_stands 133 = .ok (.iconst 1, 1) := by decide +kernel
theorem dX1_stands_134 : decode cX1_stands 134 = .ok (.goto 4, 3) := by decide +kernel
theorem dX1_stands_137 : decode cX1_stands 137 = .ok (.iconst 0, 1) := by decide +kernel
theorem dX1_stands_138 : decode cX1_stands 138 = .ok (.ireturn, 1) := by decide +kernel
theorem dX1_stands_139 : decode cX1_stands 139 = .ok (.aload_n 0, 1) := by decide +kernel
theorem dX1_stands_140 : decode cX1_stands 140 = .ok (.getfield 37, 3) := by decide +kernel
theorem dX1_stands_143 : decode cX1_stands 143 = .ok (.iload_n 2, 1) := by decide +kernel
theorem dX1_stands_144 : decode cX1_stands 144 = .ok (.baload, 1) := by decide +kernel
theorem dX1_stands_145 : decode cX1_stands 145 = .ok (.ifCond .ne 7, 3) := by decide +kernel
theorem dX1_stands_148 : decode cX1_stands 148 = .ok (.iconst 1, 1) := by decide +kernel
theorem dX1_stands_149 : decode cX1_stands 149 = .ok (.goto 4, 3) := by decide +kernel
theorem dX1_stands_152 : decode cX1_stands 152 = .ok (.iconst 0, 1) := by decide +kernel
theorem dX1_stands_153 : decode cX1_stands 153 = .ok (.ireturn, 1) := by decide +kernel
theorem dX1_stands_154 : decode cX1_stands 154 = .ok (.iload_n 1, 1) := by decide +kernel
theorem dX1_stands_155 : decode cX1_stands 155 = .ok (.aload_n 0, 1) := by decide +kernel
theorem dX1_stands_156 : decode cX1_stands 156 = .ok (.getfield 56, 3) := by decide +kernel
theorem dX1_stands_159 : decode cX1_stands 159 = .ok (.iload_n 2, 1) := by decide +kernel
theorem dX1_stands_160 : decode cX1_stands 160 = .ok (.aaload, 1) := by decide +kernel
theorem dX1_stands_161 : decode cX1_stands 161 = .ok (.iload_n 3, 1) := by decide +kernel
theorem dX1_stands_162 : decode cX1_stands 162 = .ok (.iaload, 1) := by decide +kernel
theorem dX1_stands_163 : decode cX1_stands 163 = .ok (.invokestatic 107, 3) := by decide +kernel
theorem dX1_stands_166 : decode cX1_stands 166 = .ok (.ireturn, 1) := by decide +kernel
theorem dX1_numberOf_0 : decode cX1_numberOf 0 = .ok (.iload_n 1, 1) := by decide +kernel
theorem dX1_numberOf_1 : decode cX1_numberOf 1 = .ok (.iconst 1, 1) := by decide +kernel
theorem dX1_numberOf_2 : decode cX1_numberOf 2 = .ok (.if_icmp .ne 44, 3) := by decide +kernel
theorem dX1_numberOf_5 : decode cX1_numberOf 5 = .ok (.iload_n 3, 1) := by decide +kernel
theorem dX1_numberOf_6 : decode cX1_numberOf 6 = .ok (.iconst 2, 1) := by decide +kernel
theorem dX1_numberOf_7 : decode cX1_numberOf 7 = .ok (.if_icmp .lt 39, 3) := by decide +kernel
theorem dX1_numberOf_10 : decode cX1_numberOf 10 = .ok (.iload_n 3, 1) := by decide +kernel
theorem dX1_numberOf_11 : decode cX1_numberOf 11 = .ok (.iconst 2, 1) := by decide +kernel
theorem dX1_numberOf_12 : decode cX1_numberOf 12 = .ok (.isub, 1) := by decide +kernel
theorem dX1_numberOf_13 : decode cX1_numberOf 13 = .ok (.aload_n 0, 1) := by decide +kernel
theorem dX1_numberOf_14 : decode cX1_numberOf 14 = .ok (.getfield 48, 3) := by decide +kernel
theorem dX1_numberOf_17 : decode cX1_numberOf 17 = .ok (.iload_n 2, 1) := by decide +kernel
theorem dX1_numberOf_18 : decode cX1_numberOf 18 = .ok (.iaload, 1) := by decide +kernel
theorem dX1_numberOf_19 : decode cX1_numberOf 19 = .ok (.if_icmp .ge 23, 3) := by decide +kernel
theorem dX1_numberOf_22 : decode cX1_numberOf 22 = .ok (.iload_n 3, 1) := by decide +kernel
theorem dX1_numberOf_23 : decode cX1_numberOf 23 = .ok (.iconst 2, 1) := by decide +kernel
theorem dX1_numberOf_24 : decode cX1_numberOf 24 = .ok (.isub, 1) := by decide +kernel
theorem dX1_numberOf_25 : decode cX1_numberOf 25 = .ok (.iconst 3, 1) := by decide +kernel
theorem dX1_numberOf_26 : decode cX1_numberOf 26 = .ok (.if_icmp .ge 16, 3) := by decide +kernel
theorem dX1_numberOf_29 : decode cX1_numberOf 29 = .ok (.aload_n 0, 1) := by decide +kernel
theorem dX1_numberOf_30 : decode cX1_numberOf 30 = .ok (.getfield 53, 3) := by decide +kernel
theorem dX1_numberOf_33 : decode cX1_numberOf 33 = .ok (.iload_n 2, 1) := by decide +kernel
theorem dX1_numberOf_34 : decode cX1_numberOf 34 = .ok (.aaload, 1) := by decide +kernel
theorem dX1_numberOf_35 : decode cX1_numberOf 35 = .ok (.iload_n 3, 1) := by decide +kernel
theorem dX1_numberOf_36 : decode cX1_numberOf 36 = .ok (.iconst 2, 1) := by decide +kernel
theorem dX1_numberOf_37 : decode cX1_numberOf 37 = .ok (.isub, 1) := by decide +kernel
theorem dX1_numberOf_38 : decode cX1_numberOf 38 = .ok (.iaload, 1) := by decide +kernel
theorem dX1_numberOf_39 : decode cX1_numberOf 39 = .ok (.goto 6, 3) := by decide +kernel
theorem dX1_numberOf_42 : decode cX1_numberOf 42 = .ok (.sipush (-1000), 3) := by decide +kernel
theorem dX1_numberOf_45 : decode cX1_numberOf 45 = .ok (.ireturn, 1) := by decide +kernel
theorem dX1_numberOf_46 : decode cX1_numberOf 46 = .ok (.iload_n 1, 1) := by decide +kernel
theorem dX1_numberOf_47 : decode cX1_numberOf 47 = .ok (.iconst 4, 1) := by decide +kernel
theorem dX1_numberOf_48 : decode cX1_numberOf 48 = .ok (.if_icmp .ne 24, 3) := by decide +kernel
theorem dX1_numberOf_51 : decode cX1_numberOf 51 = .ok (.iload_n 3, 1) := by decide +kernel
theorem dX1_numberOf_52 : decode cX1_numberOf 52 = .ok (.iconst 1, 1) := by decide +kernel
theorem dX1_numberOf_53 : decode cX1_numberOf 53 = .ok (.if_icmp .ne 19, 3) := by decide +kernel
theorem dX1_numberOf_56 : decode cX1_numberOf 56 = .ok (.aload_n 0, 1) := by decide +kernel
theorem dX1_numberOf_57 : decode cX1_numberOf 57 = .ok (.getfield 24, 3) := by decide +kernel
theorem dX1_numberOf_60 : decode cX1_numberOf 60 = .ok (.iload_n 2, 1) := by decide +kernel
theorem dX1_numberOf_61 : decode cX1_numberOf 61 = .ok (.iaload, 1) := by decide +kernel
theorem dX1_numberOf_62 : decode cX1_numberOf 62 = .ok (.aload_n 0, 1) := by decide +kernel
theorem dX1_numberOf_63 : decode cX1_numberOf 63 = .ok (.getfield 45, 3) := by decide +kernel
theorem dX1_numberOf_66 : decode cX1_numberOf 66 = .ok (.iload_n 2, 1) := by decide +kernel
theorem dX1_numberOf_67 : decode cX1_numberOf 67 = .ok (.iaload, 1) := by decide +kernel
theorem dX1_numberOf_68 : decode cX1_numberOf 68 = .ok (.invokestatic 110, 3) := by decide +kernel
theorem dX1_numberOf_71 : decode cX1_numberOf 71 = .ok (.ireturn, 1) := by decide +kernel
theorem dX1_numberOf_72 : decode cX1_numberOf 72 = .ok (.iload_n 3, 1) := by decide +kernel
theorem dX1_numberOf_73 : decode cX1_numberOf 73 = .ok (.ifCond .eq 7, 3) := by decide +kernel
theorem dX1_numberOf_76 : decode cX1_numberOf 76 = .ok (.sipush (-1000), 3) := by decide +kernel
theorem dX1_numberOf_79 : decode cX1_numberOf 79 = .ok (.ireturn, 1) := by decide +kernel
theorem dX1_numberOf_80 : decode cX1_numberOf 80 = .ok (.iload_n 1, 1) := by decide +kernel
theorem dX1_numberOf_81 : decode cX1_numberOf 81 = .ok (.tableswitch 63 0 4 #[35, 49, 35, 42, 56], 35) := by decide +kernel
theorem dX1_numberOf_116 : decode cX1_numberOf 116 = .ok (.aload_n 0, 1) := by decide +kernel
theorem dX1_numberOf_117 : decode cX1_numberOf 117 = .ok (.getfield 31, 3) := by decide +kernel
theorem dX1_numberOf_120 : decode cX1_numberOf 120 = .ok (.iload_n 2, 1) := by decide +kernel
theorem dX1_numberOf_121 : decode cX1_numberOf 121 = .ok (.iaload, 1) := by decide +kernel
theorem dX1_numberOf_122 : decode cX1_numberOf 122 = .ok (.ireturn, 1) := by decide +kernel
theorem dX1_numberOf_123 : decode cX1_numberOf 123 = .ok (.aload_n 0, 1) := by decide +kernel
theorem dX1_numberOf_124 : decode cX1_numberOf 124 = .ok (.getfield 34, 3) := by decide +kernel
theorem dX1_numberOf_127 : decode cX1_numberOf 127 = .ok (.iload_n 2, 1) := by decide +kernel
theorem dX1_numberOf_128 : decode cX1_numberOf 128 = .ok (.iaload, 1) := by decide +kernel
theorem dX1_numberOf_129 : decode cX1_numberOf 129 = .ok (.ireturn, 1) := by decide +kernel
theorem dX1_numberOf_130 : decode cX1_numberOf 130 = .ok (.aload_n 0, 1) := by decide +kernel
theorem dX1_numberOf_131 : decode cX1_numberOf 131 = .ok (.getfield 48, 3) := by decide +kernel
theorem dX1_numberOf_134 : decode cX1_numberOf 134 = .ok (.iload_n 2, 1) := by decide +kernel
theorem dX1_numberOf_135 : decode cX1_numberOf 135 = .ok (.iaload, 1) := by decide +kernel
theorem dX1_numberOf_136 : decode cX1_numberOf 136 = .ok (.ireturn, 1) := by decide +kernel
theorem dX1_numberOf_137 : decode cX1_numberOf 137 = .ok (.aload_n 0, 1) := by decide +kernel
theorem dX1_numberOf_138 : decode cX1_numberOf 138 = .ok (.getfield 45, 3) := by decide +kernel
theorem dX1_numberOf_141 : decode cX1_numberOf 141 = .ok (.iload_n 2, 1) := by decide +kernel
theorem dX1_numberOf_142 : decode cX1_numberOf 142 = .ok (.iaload, 1) := by decide +kernel
theorem dX1_numberOf_143 : decode cX1_numberOf 143 = .ok (.ireturn, 1) := by decide +kernel
theorem dX1_numberOf_144 : decode cX1_numberOf 144 = .ok (.sipush (-1000), 3) := by decide +kernel
theorem dX1_numberOf_147 : decode cX1_numberOf 147 = .ok (.ireturn, 1) := by decide +kernel
theorem dX1_restOf_0 : decode cX1_restOf 0 = .ok (.iload_n 1, 1) := by decide +kernel
theorem dX1_restOf_1 : decode cX1_restOf 1 = .ok (.ifCond .le 11, 3) := by decide +kernel
theorem dX1_restOf_4 : decode cX1_restOf 4 = .ok (.iload_n 0, 1) := by decide +kernel
theorem dX1_restOf_5 : decode cX1_restOf 5 = .ok (.iload_n 1, 1) := by decide +kernel
theorem dX1_restOf_6 : decode cX1_restOf 6 = .ok (.invokestatic 113, 3) := by decide +kernel
theorem dX1_restOf_9 : decode cX1_restOf 9 = .ok (.goto 6, 3) := by decide +kernel
theorem dX1_restOf_12 : decode cX1_restOf 12 = .ok (.sipush (-1000), 3) := by decide +kernel
theorem dX1_restOf_15 : decode cX1_restOf 15 = .ok (.ireturn, 1) := by decide +kernel
theorem dX1_list_0 : decode cX1_list 0 = .ok (.iconst 0, 1) := by decide +kernel
theorem dX1_list_1 : decode cX1_list 1 = .ok (.istore_n 3, 1) := by decide +kernel
theorem dX1_list_2 : decode cX1_list 2 = .ok (.iconst 0, 1) := by decide +kernel
theorem dX1_list_3 : decode cX1_list 3 = .ok (.istore 4, 2) := by decide +kernel
theorem dX1_list_5 : decode cX1_list 5 = .ok (.iload 4, 2) := by decide +kernel
theorem dX1_list_7 : decode cX1_list 7 = .ok (.bipush 9, 2) := by decide +kernel
theorem dX1_list_9 : decode cX1_list 9 = .ok (.if_icmp .gt 111, 3) := by decide +kernel
theorem dX1_list_12 : decode cX1_list 12 = .ok (.iconst 0, 1) := by decide +kernel
theorem dX1_list_13 : decode cX1_list 13 = .ok (.istore 5, 2) := by decide +kernel
theorem dX1_list_15 : decode cX1_list 15 = .ok (.iload 5, 2) := by decide +kernel
theorem dX1_list_17 : decode cX1_list 17 = .ok (.aload_n 0, 1) := by decide +kernel
theorem dX1_list_18 : decode cX1_list 18 = .ok (.getfield 9, 3) := by decide +kernel
theorem dX1_list_21 : decode cX1_list 21 = .ok (.if_icmp .ge 93, 3) := by decide +kernel
theorem dX1_list_24 : decode cX1_list 24 = .ok (.iconst 0, 1) := by decide +kernel
theorem dX1_list_25 : decode cX1_list 25 = .ok (.istore 6, 2) := by decide +kernel
theorem dX1_list_27 : decode cX1_list 27 = .ok (.iload 6, 2) := by decide +kernel
theorem dX1_list_29 : decode cX1_list 29 = .ok (.aload_n 0, 1) := by decide +kernel
theorem dX1_list_30 : decode cX1_list 30 = .ok (.getfield 9, 3) := by decide +kernel
theorem dX1_list_33 : decode cX1_list 33 = .ok (.if_icmp .ge 75, 3) := by decide +kernel
theorem dX1_list_36 : decode cX1_list 36 = .ok (.iload 4, 2) := by decide +kernel
theorem dX1_list_38 : decode cX1_list 38 = .ok (.iload 5, 2) := by decide +kernel
theorem dX1_list_40 : decode cX1_list 40 = .ok (.iload 6, 2) := by decide +kernel
theorem dX1_list_42 : decode cX1_list 42 = .ok (.invokestatic 116, 3) := by decide +kernel
theorem dX1_list_45 : decode cX1_list 45 = .ok (.ifCond .eq 57, 3) := by decide +kernel
theorem dX1_list_48 : decode cX1_list 48 = .ok (.iload_n 3, 1) := by decide +kernel
theorem dX1_list_49 : decode cX1_list 49 = .ok (.aload_n 2, 1) := by decide +kernel
theorem dX1_list_50 : decode cX1_list 50 = .ok (.arraylength, 1) := by decide +kernel
theorem dX1_list_51 : decode cX1_list 51 = .ok (.if_icmp .ge 51, 3) := by decide +kernel
theorem dX1_list_54 : decode cX1_list 54 = .ok (.iload_n 1, 1) := by decide +kernel
theorem dX1_list_55 : decode cX1_list 55 = .ok (.ifCond .eq 19, 3) := by decide +kernel
theorem dX1_list_58 : decode cX1_list 58 = .ok (.aload_n 0, 1) := by decide +kernel
theorem dX1_list_59 : decode cX1_list 59 = .ok (.iload 4, 2) := by decide +kernel
theorem dX1_list_61 : decode cX1_list 61 = .ok (.iload 5, 2) := by decide +kernel
theorem dX1_list_63 : decode cX1_list 63 = .ok (.iload 6, 2) := by decide +kernel
theorem dX1_list_65 : decode cX1_list 65 = .ok (.invokevirtual 120, 3) := by decide +kernel
theorem dX1_list_68 : decode cX1_list 68 = .ok (.ifCond .eq 34, 3) := by decide +kernel
theorem dX1_list_71 : decode cX1_list 71 = .ok (.goto 16, 3) := by decide +kernel
theorem dX1_list_74 : decode cX1_list 74 = .ok (.aload_n 0, 1) := by decide +kernel
theorem dX1_list_75 : decode cX1_list 75 = .ok (.iload 4, 2) := by decide +kernel
theorem dX1_list_77 : decode cX1_list 77 = .ok (.iload 5, 2) := by decide +kernel
theorem dX1_list_79 : decode cX1_list 79 = .ok (.iload 6, 2) := by decide +kernel
theorem dX1_list_81 : decode cX1_list 81 = .ok (.invokevirtual 123, 3) := by decide +kernel
theorem dX1_list_84 : decode cX1_list 84 = .ok (.ifCond .eq 18, 3) := by decide +kernel
theorem dX1_list_87 : decode cX1_list 87 = .ok (.aload_n 2, 1) := by decide +kernel
theorem dX1_list_88 : decode cX1_list 88 = .ok (.iload_n 3, 1) := by decide +kernel
theorem dX1_list_89 : decode cX1_list 89 = .ok (.iload 4, 2) := by decide +kernel
theorem dX1_list_91 : decode cX1_list 91 = .ok (.iload 5, 2) := by decide +kernel
theorem dX1_list_93 : decode cX1_list 93 = .ok (.iload 6, 2) := by decide +kernel
theorem dX1_list_95 : decode cX1_list 95 = .ok (.invokestatic 126, 3) := by decide +kernel
theorem dX1_list_98 : decode cX1_list 98 = .ok (.iastore, 1) := by decide +kernel
theorem dX1_list_99 : decode cX1_list 99 = .ok (.iinc 3 1, 3) := by decide +kernel
theorem dX1_list_102 : decode cX1_list 102 = .ok (.iinc 6 1, 3) := by decide +kernel
theorem dX1_list_105 : decode cX1_list 105 = .ok (.goto (-78), 3) := by decide +kernel
theorem dX1_list_108 : decode cX1_list 108 = .ok (.iinc 5 1, 3) := by decide +kernel
theorem dX1_list_111 : decode cX1_list 111 = .ok (.goto (-96), 3) := by decide +kernel
theorem dX1_list_114 : decode cX1_list 114 = .ok (.iinc 4 1, 3) := by decide +kernel
theorem dX1_list_117 : decode cX1_list 117 = .ok (.goto (-112), 3) := by decide +kernel
theorem dX1_list_120 : decode cX1_list 120 = .ok (.iload_n 3, 1) := by decide +kernel
theorem dX1_list_121 : decode cX1_list 121 = .ok (.ireturn, 1) := by decide +kernel
theorem dX1_isTold_0 : decode cX1_isTold 0 = .ok (.aload_n 0, 1) := by decide +kernel
theorem dX1_isTold_1 : decode cX1_isTold 1 = .ok (.iload_n 1, 1) := by decide +kernel
theorem dX1_isTold_2 : decode cX1_isTold 2 = .ok (.iload_n 2, 1) := by decide +kernel
theorem dX1_isTold_3 : decode cX1_isTold 3 = .ok (.iload_n 3, 1) := by decide +kernel
theorem dX1_isTold_4 : decode cX1_isTold 4 = .ok (.invokevirtual 123, 3) := by decide +kernel
theorem dX1_isTold_7 : decode cX1_isTold 7 = .ok (.ifCond .ne 5, 3) := by decide +kernel
theorem dX1_isTold_10 : decode cX1_isTold 10 = .ok (.iconst 0, 1) := by decide +kernel
theorem dX1_isTold_11 : decode cX1_isTold 11 = .ok (.ireturn, 1) := by decide +kernel
theorem dX1_isTold_12 : decode cX1_isTold 12 = .ok (.iload_n 1, 1) := by decide +kernel
theorem dX1_isTold_13 : decode cX1_isTold 13 = .ok (.ifCond .ne 5, 3) := by decide +kernel
theorem dX1_isTold_16 : decode cX1_isTold 16 = .ok (.iconst 1, 1) := by decide +kernel
theorem dX1_isTold_17 : decode cX1_isTold 17 = .ok (.ireturn, 1) := by decide +kernel
theorem dX1_isTold_18 : decode cX1_isTold 18 = .ok (.aload_n 0, 1) := by decide +kernel
theorem dX1_isTold_19 : decode cX1_isTold 19 = .ok (.iconst 0, 1) := by decide +kernel
theorem dX1_isTold_20 : decode cX1_isTold 20 = .ok (.iload_n 2, 1) := by decide +kernel
theorem dX1_isTold_21 : decode cX1_isTold 21 = .ok (.iconst 0, 1) := by decide +kernel
theorem dX1_isTold_22 : decode cX1_isTold 22 = .ok (.invokevirtual 123, 3) := by decide +kernel
theorem dX1_isTold_25 : decode cX1_isTold 25 = .ok (.istore 4, 2) := by decide +kernel
theorem dX1_isTold_27 : decode cX1_isTold 27 = .ok (.iload_n 1, 1) := by decide +kernel
theorem dX1_isTold_28 : decode cX1_isTold 28 = .ok (.invokestatic 130, 3) := by decide +kernel
theorem dX1_isTold_31 : decode cX1_isTold 31 = .ok (.ifCond .ne 14, 3) := by decide +kernel
theorem dX1_isTold_34 : decode cX1_isTold 34 = .ok (.iload 4, 2) := by decide +kernel
theorem dX1_isTold_36 : decode cX1_isTold 36 = .ok (.ifCond .ne 7, 3) := by decide +kernel
theorem dX1_isTold_39 : decode cX1_isTold 39 = .ok (.iconst 1, 1) := by decide +kernel
theorem dX1_isTold_40 : decode cX1_isTold 40 = .ok (.goto 4, 3) := by decide +kernel
theorem dX1_isTold_43 : decode cX1_isTold 43 = .ok (.iconst 0, 1) := by decide +kernel
theorem dX1_isTold_44 : decode cX1_isTold 44 = .ok (.ireturn, 1) := by decide +kernel
theorem dX1_isTold_45 : decode cX1_isTold 45 = .ok (.iload 4, 2) := by decide +kernel
theorem dX1_isTold_47 : decode cX1_isTold 47 = .ok (.ifCond .eq 15, 3) := by decide +kernel
theorem dX1_isTold_50 : decode cX1_isTold 50 = .ok (.aload_n 0, 1) := by decide +kernel
theorem dX1_isTold_51 : decode cX1_isTold 51 = .ok (.iconst 0, 1) := by decide +kernel
theorem dX1_isTold_52 : decode cX1_isTold 52 = .ok (.iload_n 3, 1) := by decide +kernel
theorem dX1_isTold_53 : decode cX1_isTold 53 = .ok (.iconst 0, 1) := by decide +kernel
theorem dX1_isTold_54 : decode cX1_isTold 54 = .ok (.invokevirtual 123, 3) := by decide +kernel
theorem dX1_isTold_57 : decode cX1_isTold 57 = .ok (.ifCond .eq 5, 3) := by decide +kernel
theorem dX1_isTold_60 : decode cX1_isTold 60 = .ok (.iconst 0, 1) := by decide +kernel
theorem dX1_isTold_61 : decode cX1_isTold 61 = .ok (.ireturn, 1) := by decide +kernel
theorem dX1_isTold_62 : decode cX1_isTold 62 = .ok (.iload_n 1, 1) := by decide +kernel
theorem dX1_isTold_63 : decode cX1_isTold 63 = .ok (.bipush 7, 2) := by decide +kernel
theorem dX1_isTold_65 : decode cX1_isTold 65 = .ok (.if_icmp .ne 30, 3) := by decide +kernel
theorem dX1_isTold_68 : decode cX1_isTold 68 = .ok (.aload_n 0, 1) := by decide +kernel
theorem dX1_isTold_69 : decode cX1_isTold 69 = .ok (.iconst 5, 1) := by decide +kernel
theorem dX1_isTold_70 : decode cX1_isTold 70 = .ok (.iload_n 2, 1) := by decide +kernel
theorem dX1_isTold_71 : decode cX1_isTold 71 = .ok (.iload_n 3, 1) := by decide +kernel
theorem dX1_isTold_72 : decode cX1_isTold 72 = .ok (.invokevirtual 123, 3) := by decide +kernel
theorem dX1_isTold_75 : decode cX1_isTold 75 = .ok (.ifCond .ne 18, 3) := by decide +kernel
theorem dX1_isTold_78 : decode cX1_isTold 78 = .ok (.aload_n 0, 1) := by decide +kernel
theorem dX1_isTold_79 : decode cX1_isTold 79 = .ok (.bipush 6, 2) := by decide +kernel
theorem dX1_isTold_81 : decode cX1_isTold 81 = .ok (.iload_n 2, 1) := by decide +kernel
theorem dX1_isTold_82 : decode cX1_isTold 82 = .ok (.iload_n 3, 1) := by decide +kernel
theorem dX1_isTold_83 : decode cX1_isTold 83 = .ok (.invokevirtual 123, 3) := by decide +kernel
theorem dX1_isTold_86 : decode cX1_isTold 86 = .ok (.ifCond .ne 7, 3) := by decide +kernel
theorem dX1_isTold_89 : decode cX1_isTold 89 = .ok (.iconst 1, 1) := by decide +kernel
theorem dX1_isTold_90 : decode cX1_isTold 90 = .ok (.goto 4, 3) := by decide +kernel
theorem dX1_isTold_93 : decode cX1_isTold 93 = .ok (.iconst 0, 1) := by decide +kernel
theorem dX1_isTold_94 : decode cX1_isTold 94 = .ok (.ireturn, 1) := by decide +kernel
theorem dX1_isTold_95 : decode cX1_isTold 95 = .ok (.iload_n 1, 1) := by decide +kernel
theorem dX1_isTold_96 : decode cX1_isTold 96 = .ok (.bipush 8, 2) := by decide +kernel
theorem dX1_isTold_98 : decode cX1_isTold 98 = .ok (.if_icmp .ne 25, 3) := by decide +kernel
theorem dX1_isTold_101 : decode cX1_isTold 101 = .ok (.aload_n 0, 1) := by decide +kernel
theorem dX1_isTold_102 : decode cX1_isTold 102 = .ok (.bipush 6, 2) := by decide +kernel
theorem dX1_isTold_104 : decode cX1_isTold 104 = .ok (.iload_n 2, 1) := by decide +kernel
theorem dX1_isTold_105 : decode cX1_isTold 105 = .ok (.iload_n 3, 1) := by decide +kernel
theorem dX1_isTold_106 : decode cX1_isTold 106 = .ok (.invokevirtual 123, 3) := by decide +kernel
theorem dX1_isTold_109 : decode cX1_isTold 109 = .ok (.ifCond .ne 18, 3) := by decide +kernel
theorem dX1_isTold_112 : decode cX1_isTold 112 = .ok (.aload_n 0, 1) := by decide +kernel
theorem dX1_isTold_113 : decode cX1_isTold 113 = .ok (.bipush 6, 2) := by decide +kernel
theorem dX1_isTold_115 : decode cX1_isTold 115 = .ok (.iload_n 3, 1) := by decide +kernel
theorem dX1_isTold_116 : decode cX1_isTold 116 = .ok (.iload_n 2, 1) := by decide +kernel
theorem dX1_isTold_117 : decode cX1_isTold 117 = .ok (.invokevirtual 123, 3) := by decide +kernel
theorem dX1_isTold_120 : decode cX1_isTold 120 = .ok (.ifCond .ne 7, 3) := by decide +kernel
theorem dX1_isTold_123 : decode cX1_isTold 123 = .ok (.iconst 1, 1) := by decide +kernel
theorem dX1_isTold_124 : decode cX1_isTold 124 = .ok (.goto 4, 3) := by decide +kernel
theorem dX1_isTold_127 : decode cX1_isTold 127 = .ok (.iconst 0, 1) := by decide +kernel
theorem dX1_isTold_128 : decode cX1_isTold 128 = .ok (.ireturn, 1) := by decide +kernel
theorem dX1_isBrokenBy_0 : decode cX1_isBrokenBy 0 = .ok (.aload_n 0, 1) := by decide +kernel
theorem dX1_isBrokenBy_1 : decode cX1_isBrokenBy 1 = .ok (.iload_n 3, 1) := by decide +kernel
theorem dX1_isBrokenBy_2 : decode cX1_isBrokenBy 2 = .ok (.invokevirtual 103, 3) := by decide +kernel
theorem dX1_isBrokenBy_5 : decode cX1_isBrokenBy 5 = .ok (.ifCond .eq 12, 3) := by decide +kernel
theorem dX1_isBrokenBy_8 : decode cX1_isBrokenBy 8 = .ok (.aload_n 0, 1) := by decide +kernel
theorem dX1_isBrokenBy_9 : decode cX1_isBrokenBy 9 = .ok (.iload 4, 2) := by decide +kernel
theorem dX1_isBrokenBy_11 : decode cX1_isBrokenBy 11 = .ok (.invokevirtual 103, 3) := by decide +kernel
theorem dX1_isBrokenBy_14 : decode cX1_isBrokenBy 14 = .ok (.ifCond .ne 5, 3) := by decide +kernel
theorem dX1_isBrokenBy_17 : decode cX1_isBrokenBy 17 = .ok (.iconst 0, 1) := by decide +kernel
theorem dX1_isBrokenBy_18 : decode cX1_isBrokenBy 18 = .ok (.ireturn, 1) := by decide +kernel
theorem dX1_isBrokenBy_19 : decode cX1_isBrokenBy 19 = .ok (.aload_n 1, 1) := by decide +kernel
theorem dX1_isBrokenBy_20 : decode cX1_isBrokenBy 20 = .ok (.iload_n 3, 1) := by decide +kernel
theorem dX1_isBrokenBy_21 : decode cX1_isBrokenBy 21 = .ok (.iaload, 1) := by decide +kernel
theorem dX1_isBrokenBy_22 : decode cX1_isBrokenBy 22 = .ok (.istore 5, 2) := by decide +kernel
theorem dX1_isBrokenBy_24 : decode cX1_isBrokenBy 24 = .ok (.iload_n 2, 1) := by decide +kernel
theorem dX1_isBrokenBy_25 : decode cX1_isBrokenBy 25 = .ok (.tableswitch 159 0 9 #[55, 72, 88, 105, 122, 159, 159, 159, 159, 157], 55) := by decide +kernel
theorem dX1_isBrokenBy_80 : decode cX1_isBrokenBy 80 = .ok (.iload 5, 2) := by decide +kernel
theorem dX1_isBrokenBy_82 : decode cX1_isBrokenBy 82 = .ok (.aload_n 0, 1) := by decide +kernel
theorem dX1_isBrokenBy_83 : decode cX1_isBrokenBy 83 = .ok (.getfield 24, 3) := by decide +kernel
theorem dX1_isBrokenBy_86 : decode cX1_isBrokenBy 86 = .ok (.iload_n 3, 1) := by decide +kernel
theorem dX1_isBrokenBy_87 : decode cX1_isBrokenBy 87 = .ok (.iaload, 1) := by decide +kernel
theorem dX1_isBrokenBy_88 : decode cX1_isBrokenBy 88 = .ok (.if_icmp .eq 7, 3) := by decide +kernel
theorem dX1_isBrokenBy_91 : decode cX1_isBrokenBy 91 = .ok (.iconst 1, 1) := by decide +kernel
theorem dX1_isBrokenBy_92 : decode cX1_isBrokenBy 92 = .ok (.goto 4, 3) := by decide +kernel
theorem dX1_isBrokenBy_95 : decode cX1_isBrokenBy 95 = .ok (.iconst 0, 1) := by decide +kernel
theorem dX1_isBrokenBy_96 : decode cX1_isBrokenBy 96 = .ok (.ireturn, 1) := by decide +kernel
theorem dX1_isBrokenBy_97 : decode cX1_isBrokenBy 97 = .ok (.aload_n 0, 1) := by decide +kernel
theorem dX1_isBrokenBy_98 : decode cX1_isBrokenBy 98 = .ok (.iload_n 3, 1) := by decide +kernel
theorem dX1_isBrokenBy_99 : decode cX1_isBrokenBy 99 = .ok (.iload 5, 2) := by decide +kernel
theorem dX1_isBrokenBy_101 : decode cX1_isBrokenBy 101 = .ok (.invokevirtual 99, 3) := by decide +kernel
theorem dX1_isBrokenBy_104 : decode cX1_isBrokenBy 104 = .ok (.ifCond .ne 7, 3) := by decide +kernel
theorem dX1_isBrokenBy_107 : decode cX1_isBrokenBy 107 = .ok (.iconst 1, 1) := by decide +kernel
theorem dX1_isBrokenBy_108 : decode cX1_isBrokenBy 108 = .ok (.goto 4, 3) := by decide +kernel
theorem dX1_isBrokenBy_111 : decode cX1_isBrokenBy 111 = .ok (.iconst 0, 1) := by decide +kernel
theorem dX1_isBrokenBy_112 : decode cX1_isBrokenBy 112 = .ok (.ireturn, 1) := by decide +kernel
theorem dX1_isBrokenBy_113 : decode cX1_isBrokenBy 113 = .ok (.iload 5, 2) := by decide +kernel
theorem dX1_isBrokenBy_115 : decode cX1_isBrokenBy 115 = .ok (.aload_n 0, 1) := by decide +kernel
theorem dX1_isBrokenBy_116 : decode cX1_isBrokenBy 116 = .ok (.getfield 31, 3) := by decide +kernel
theorem dX1_isBrokenBy_119 : decode cX1_isBrokenBy 119 = .ok (.iload_n 3, 1) := by decide +kernel
theorem dX1_isBrokenBy_120 : decode cX1_isBrokenBy 120 = .ok (.iaload, 1) := by decide +kernel
theorem dX1_isBrokenBy_121 : decode cX1_isBrokenBy 121 = .ok (.if_icmp .ge 7, 3) := by decide +kernel
theorem dX1_isBrokenBy_124 : decode cX1_isBrokenBy 124 = .ok (.iconst 1, 1) := by decide +kernel
theorem dX1_isBrokenBy_125 : decode cX1_isBrokenBy 125 = .ok (.goto 4, 3) := by decide +kernel
theorem dX1_isBrokenBy_128 : decode cX1_isBrokenBy 128 = .ok (.iconst 0, 1) := by decide +kernel
theorem dX1_isBrokenBy_129 : decode cX1_isBrokenBy 129 = .ok (.ireturn, 1) := by decide +kernel
theorem dX1_isBrokenBy_130 : decode cX1_isBrokenBy 130 = .ok (.iload 5, 2) := by decide +kernel
theorem dX1_isBrokenBy_132 : decode cX1_isBrokenBy 132 = .ok (.aload_n 0, 1) := by decide +kernel
theorem dX1_isBrokenBy_133 : decode cX1_isBrokenBy 133 = .ok (.getfield 34, 3) := by decide +kernel
theorem dX1_isBrokenBy_136 : decode cX1_isBrokenBy 136 = .ok (.iload_n 3, 1) := by decide +kernel
theorem dX1_isBrokenBy_137 : decode cX1_isBrokenBy 137 = .ok (.iaload, 1) := by decide +kernel
theorem dX1_isBrokenBy_138 : decode cX1_isBrokenBy 138 = .ok (.if_icmp .le 7, 3) := by decide +kernel
theorem dX1_isBrokenBy_141 : decode cX1_isBrokenBy 141 = .ok (.iconst 1, 1) := by decide +kernel
theorem dX1_isBrokenBy_142 : decode cX1_isBrokenBy 142 = .ok (.goto 4, 3) := by decide +kernel
theorem dX1_isBrokenBy_145 : decode cX1_isBrokenBy 145 = .ok (.iconst 0, 1) := by decide +kernel
theorem dX1_isBrokenBy_146 : decode cX1_isBrokenBy 146 = .ok (.ireturn, 1) := by decide +kernel
theorem dX1_isBrokenBy_147 : decode cX1_isBrokenBy 147 = .ok (.iload 5, 2) := by decide +kernel
theorem dX1_isBrokenBy_149 : decode cX1_isBrokenBy 149 = .ok (.aload_n 0, 1) := by decide +kernel
theorem dX1_isBrokenBy_150 : decode cX1_isBrokenBy 150 = .ok (.getfield 45, 3) := by decide +kernel
theorem dX1_isBrokenBy_153 : decode cX1_isBrokenBy 153 = .ok (.iload_n 3, 1) := by decide +kernel
theorem dX1_isBrokenBy_154 : decode cX1_isBrokenBy 154 = .ok (.iaload, 1) := by decide +kernel
theorem dX1_isBrokenBy_155 : decode cX1_isBrokenBy 155 = .ok (.invokestatic 110, 3) := by decide +kernel
theorem dX1_isBrokenBy_158 : decode cX1_isBrokenBy 158 = .ok (.aload_n 0, 1) := by decide +kernel
theorem dX1_isBrokenBy_159 : decode cX1_isBrokenBy 159 = .ok (.getfield 24, 3) := by decide +kernel
theorem dX1_isBrokenBy_162 : decode cX1_isBrokenBy 162 = .ok (.iload_n 3, 1) := by decide +kernel
theorem dX1_isBrokenBy_163 : decode cX1_isBrokenBy 163 = .ok (.iaload, 1) := by decide +kernel
theorem dX1_isBrokenBy_164 : decode cX1_isBrokenBy 164 = .ok (.aload_n 0, 1) := by decide +kernel
theorem dX1_isBrokenBy_165 : decode cX1_isBrokenBy 165 = .ok (.getfield 45, 3) := by decide +kernel
theorem dX1_isBrokenBy_168 : decode cX1_isBrokenBy 168 = .ok (.iload_n 3, 1) := by decide +kernel
theorem dX1_isBrokenBy_169 : decode cX1_isBrokenBy 169 = .ok (.iaload, 1) := by decide +kernel
theorem dX1_isBrokenBy_170 : decode cX1_isBrokenBy 170 = .ok (.invokestatic 110, 3) := by decide +kernel
theorem dX1_isBrokenBy_173 : decode cX1_isBrokenBy 173 = .ok (.if_icmp .eq 7, 3) := by decide +kernel
theorem dX1_isBrokenBy_176 : decode cX1_isBrokenBy 176 = .ok (.iconst 1, 1) := by decide +kernel
theorem dX1_isBrokenBy_177 : decode cX1_isBrokenBy 177 = .ok (.goto 4, 3) := by decide +kernel
theorem dX1_isBrokenBy_180 : decode cX1_isBrokenBy 180 = .ok (.iconst 0, 1) := by decide +kernel
theorem dX1_isBrokenBy_181 : decode cX1_isBrokenBy 181 = .ok (.ireturn, 1) := by decide +kernel
theorem dX1_isBrokenBy_182 : decode cX1_isBrokenBy 182 = .ok (.iconst 0, 1) := by decide +kernel
theorem dX1_isBrokenBy_183 : decode cX1_isBrokenBy 183 = .ok (.ireturn, 1) := by decide +kernel
theorem dX1_isBrokenBy_184 : decode cX1_isBrokenBy 184 = .ok (.iload_n 2, 1) := by decide +kernel
theorem dX1_isBrokenBy_185 : decode cX1_isBrokenBy 185 = .ok (.iload 5, 2) := by decide +kernel
theorem dX1_isBrokenBy_187 : decode cX1_isBrokenBy 187 = .ok (.aload_n 1, 1) := by decide +kernel
theorem dX1_isBrokenBy_188 : decode cX1_isBrokenBy 188 = .ok (.iload 4, 2) := by decide +kernel
theorem dX1_isBrokenBy_190 : decode cX1_isBrokenBy 190 = .ok (.iaload, 1) := by decide +kernel
theorem dX1_isBrokenBy_191 : decode cX1_isBrokenBy 191 = .ok (.invokestatic 72, 3) := by decide +kernel
theorem dX1_isBrokenBy_194 : decode cX1_isBrokenBy 194 = .ok (.invokestatic 107, 3) := by decide +kernel
theorem dX1_isBrokenBy_197 : decode cX1_isBrokenBy 197 = .ok (.ifCond .ne 7, 3) := by decide +kernel
theorem dX1_isBrokenBy_200 : decode cX1_isBrokenBy 200 = .ok (.iconst 1, 1) := by decide +kernel
theorem dX1_isBrokenBy_201 : decode cX1_isBrokenBy 201 = .ok (.goto 4, 3) := by decide +kernel
theorem dX1_isBrokenBy_204 : decode cX1_isBrokenBy 204 = .ok (.iconst 0, 1) := by decide +kernel
theorem dX1_isBrokenBy_205 : decode cX1_isBrokenBy 205 = .ok (.ireturn, 1) := by decide +kernel
theorem dX1_basisSize_0 : decode cX1_basisSize 0 = .ok (.aload_n 0, 1) := by decide +kernel
theorem dX1_basisSize_1 : decode cX1_basisSize 1 = .ok (.getfield 59, 3) := by decide +kernel
theorem dX1_basisSize_4 : decode cX1_basisSize 4 = .ok (.ifCond .ne 7, 3) := by decide +kernel
theorem dX1_basisSize_7 : decode cX1_basisSize 7 = .ok (.iconst 0, 1) := by decide +kernel
theorem dX1_basisSize_8 : decode cX1_basisSize 8 = .ok (.goto 10, 3) := by decide +kernel
theorem dX1_basisSize_11 : decode cX1_basisSize 11 = .ok (.aload_n 0, 1) := by decide +kernel
theorem dX1_basisSize_12 : decode cX1_basisSize 12 = .ok (.getfield 20, 3) := by decide +kernel
theorem dX1_basisSize_15 : decode cX1_basisSize 15 = .ok (.invokevirtual 133, 3) := by decide +kernel
theorem dX1_basisSize_18 : decode cX1_basisSize 18 = .ok (.ireturn, 1) := by decide +kernel
theorem dX1_spans_0 : decode cX1_spans 0 = .ok (.aload_n 0, 1) := by decide +kernel
theorem dX1_spans_1 : decode cX1_spans 1 = .ok (.getfield 59, 3) := by decide +kernel
theorem dX1_spans_4 : decode cX1_spans 4 = .ok (.ifCond .le 12, 3) := by decide +kernel
theorem dX1_spans_7 : decode cX1_spans 7 = .ok (.aload_n 0, 1) := by decide +kernel
theorem dX1_spans_8 : decode cX1_spans 8 = .ok (.getfield 20, 3) := by decide +kernel
theorem dX1_spans_11 : decode cX1_spans 11 = .ok (.aload_n 1, 1) := by decide +kernel
theorem dX1_spans_12 : decode cX1_spans 12 = .ok (.invokevirtual 137, 3) := by decide +kernel
theorem dX1_spans_15 : decode cX1_spans 15 = .ok (.ireturn, 1) := by decide +kernel
theorem dX1_spans_16 : decode cX1_spans 16 = .ok (.iconst 0, 1) := by decide +kernel
theorem dX1_spans_17 : decode cX1_spans 17 = .ok (.istore_n 2, 1) := by decide +kernel
theorem dX1_spans_18 : decode cX1_spans 18 = .ok (.iload_n 2, 1) := by decide +kernel
theorem dX1_spans_19 : decode cX1_spans 19 = .ok (.aload_n 0, 1) := by decide +kernel
theorem dX1_spans_20 : decode cX1_spans 20 = .ok (.getfield 9, 3) := by decide +kernel
theorem dX1_spans_23 : decode cX1_spans 23 = .ok (.if_icmp .gt 25, 3) := by decide +kernel
theorem dX1_spans_26 : decode cX1_spans 26 = .ok (.iload_n 2, 1) := by decide +kernel
theorem dX1_spans_27 : decode cX1_spans 27 = .ok (.aload_n 1, 1) := by decide +kernel
theorem dX1_spans_28 : decode cX1_spans 28 = .ok (.arraylength, 1) := by decide +kernel
theorem dX1_spans_29 : decode cX1_spans 29 = .ok (.if_icmp .ge 19, 3) := by decide +kernel
theorem dX1_spans_32 : decode cX1_spans 32 = .ok (.aload_n 1, 1) := by decide +kernel
theorem dX1_spans_33 : decode cX1_spans 33 = .ok (.iload_n 2, 1) := by decide +kernel
theorem dX1_spans_34 : decode cX1_spans 34 = .ok (.laload, 1) := by decide +kernel
theorem dX1_spans_35 : decode cX1_spans 35 = .ok (.lconst 0, 1) := by decide +kernel
theorem dX1_spans_36 : decode cX1_spans 36 = .ok (.lcmp, 1) := by decide +kernel
theorem dX1_spans_37 : decode cX1_spans 37 = .ok (.ifCond .eq 5, 3) := by decide +kernel
theorem dX1_spans_40 : decode cX1_spans 40 = .ok (.iconst 0, 1) := by decide +kernel
theorem dX1_spans_41 : decode cX1_spans 41 = .ok (.ireturn, 1) := by decide +kernel
theorem dX1_spans_42 : decode cX1_spans 42 = .ok (.iinc 2 1, 3) := by decide +kernel
theorem dX1_spans_45 : decode cX1_spans 45 = .ok (.goto (-27), 3) := by decide +kernel
theorem dX1_spans_48 : decode cX1_spans 48 = .ok (.iconst 1, 1) := by decide +kernel
theorem dX1_spans_49 : decode cX1_spans 49 = .ok (.ireturn, 1) := by decide +kernel
theorem dX2_init_0 : decode cX2_init 0 = .ok (.aload_n 0, 1) := by decide +kernel
theorem dX2_init_1 : decode cX2_init 1 = .ok (.invokespecial 1, 3) := by decide +kernel
theorem dX2_init_4 : decode cX2_init 4 = .ok (.aload_n 0, 1) := by decide +kernel
theorem dX2_init_5 : decode cX2_init 5 = .ok (.sipush 1024, 3) := by decide +kernel
theorem dX2_init_8 : decode cX2_init 8 = .ok (.newarray .int, 2) := by decide +kernel
theorem dX2_init_10 : decode cX2_init 10 = .ok (.putfield 9, 3) := by decide +kernel
theorem dX2_init_13 : decode cX2_init 13 = .ok (.aload_n 0, 1) := by decide +kernel
theorem dX2_init_14 : decode cX2_init 14 = .ok (.sipush 1024, 3) := by decide +kernel
theorem dX2_init_17 : decode cX2_init 17 = .ok (.newarray .int, 2) := by decide +kernel
theorem dX2_init_19 : decode cX2_init 19 = .ok (.putfield 13, 3) := by decide +kernel
theorem dX2_init_22 : decode cX2_init 22 = .ok (.return_, 1) := by decide +kernel
theorem dX2_forget_0 : decode cX2_forget 0 = .ok (.iconst 0, 1) := by decide +kernel
theorem dX2_forget_1 : decode cX2_forget 1 = .ok (.istore_n 1, 1) := by decide +kernel
theorem dX2_forget_2 : decode cX2_forget 2 = .ok (.iload_n 1, 1) := by decide +kernel
theorem dX2_forget_3 : decode cX2_forget 3 = .ok (.aload_n 0, 1) := by decide +kernel
theorem dX2_forget_4 : decode cX2_forget 4 = .ok (.getfield 9, 3) := by decide +kernel
theorem dX2_forget_7 : decode cX2_forget 7 = .ok (.arraylength, 1) := by decide +kernel
theorem dX2_forget_8 : decode cX2_forget 8 = .ok (.if_icmp .ge 16, 3) := by decide +kernel
theorem dX2_forget_11 : decode cX2_forget 11 = .ok (.aload_n 0, 1) := by decide +kernel
theorem dX2_forget_12 : decode cX2_forget 12 = .ok (.getfield 9, 3) := by decide +kernel
theorem dX2_forget_15 : decode cX2_forget 15 = .ok (.iload_n 1, 1) := by decide +kernel
theorem dX2_forget_16 : decode cX2_forget 16 = .ok (.iconst (-1), 1) := by decide +kernel
theorem dX2_forget_17 : decode cX2_forget 17 = .ok (.iastore, 1) := by decide +kernel
theorem dX2_forget_18 : decode cX2_forget 18 = .ok (.iinc 1 1, 3) := by decide +kernel
theorem dX2_forget_21 : decode cX2_forget 21 = .ok (.goto (-19), 3) := by decide +kernel
theorem dX2_forget_24 : decode cX2_forget 24 = .ok (.return_, 1) := by decide +kernel
theorem dX2_rowsOf_0 : decode cX2_rowsOf 0 = .ok (.iload_n 1, 1) := by decide +kernel
theorem dX2_rowsOf_1 : decode cX2_rowsOf 1 = .ok (.invokestatic 16, 3) := by decide +kernel
theorem dX2_rowsOf_4 : decode cX2_rowsOf 4 = .ok (.istore_n 2, 1) := by decide +kernel
theorem dX2_rowsOf_5 : decode cX2_rowsOf 5 = .ok (.aload_n 0, 1) := by decide +kernel
theorem dX2_rowsOf_6 : decode cX2_rowsOf 6 = .ok (.getfield 9, 3) := by decide +kernel
theorem dX2_rowsOf_9 : decode cX2_rowsOf 9 = .ok (.iload_n 2, 1) := by decide +kernel
theorem dX2_rowsOf_10 : decode cX2_rowsOf 10 = .ok (.iaload, 1) := by decide +kernel
theorem dX2_rowsOf_11 : decode cX2_rowsOf 11 = .ok (.iload_n 1, 1) := by decide +kernel
theorem dX2_rowsOf_12 : decode cX2_rowsOf 12 = .ok (.if_icmp .ne 12, 3) := by decide +kernel
theorem dX2_rowsOf_15 : decode cX2_rowsOf 15 = .ok (.aload_n 0, 1) := by decide +kernel
theorem dX2_rowsOf_16 : decode cX2_rowsOf 16 = .ok (.getfield 13, 3) := by decide +kernel
theorem dX2_rowsOf_19 : decode cX2_rowsOf 19 = .ok (.iload_n 2, 1) := by decide +kernel
theorem dX2_rowsOf_20 : decode cX2_rowsOf 20 = .ok (.iaload, 1) := by decide +kernel
theorem dX2_rowsOf_21 : decode cX2_rowsOf 21 = .ok (.goto 4, 3) := by decide +kernel
theorem dX2_rowsOf_24 : decode cX2_rowsOf 24 = .ok (.iconst (-1), 1) := by decide +kernel
theorem dX2_rowsOf_25 : decode cX2_rowsOf 25 = .ok (.ireturn, 1) := by decide +kernel
theorem dX2_keep_0 : decode cX2_keep 0 = .ok (.iload_n 1, 1) := by decide +kernel
theorem dX2_keep_1 : decode cX2_keep 1 = .ok (.invokestatic 16, 3) := by decide +kernel
theorem dX2_keep_4 : decode cX2_keep 4 = .ok (.istore_n 3, 1) := by decide +kernel
theorem dX2_keep_5 : decode cX2_keep 5 = .ok (.aload_n 0, 1) := by decide +kernel
theorem dX2_keep_6 : decode cX2_keep 6 = .ok (.getfield 9, 3) := by decide +kernel
theorem dX2_keep_9 : decode cX2_keep 9 = .ok (.iload_n 3, 1) := by decide +kernel
theorem dX2_keep_10 : decode cX2_keep 10 = .ok (.iload_n 1, 1) := by decide +kernel
theorem dX2_keep_11 : decode cX2_keep 11 = .ok (.iastore, 1) := by decide +kernel
theorem dX2_keep_12 : decode cX2_keep 12 = .ok (.aload_n 0, 1) := by decide +kernel
theorem dX2_keep_13 : decode cX2_keep 13 = .ok (.getfield 13, 3) := by decide +kernel
theorem dX2_keep_16 : decode cX2_keep 16 = .ok (.iload_n 3, 1) := by decide +kernel
theorem dX2_keep_17 : decode cX2_keep 17 = .ok (.iload_n 2, 1) := by decide +kernel
theorem dX2_keep_18 : decode cX2_keep 18 = .ok (.iastore, 1) := by decide +kernel
theorem dX2_keep_19 : decode cX2_keep 19 = .ok (.return_, 1) := by decide +kernel
theorem dX2_slotOf_0 : decode cX2_slotOf 0 = .ok (.iload_n 0, 1) := by decide +kernel
theorem dX2_slotOf_1 : decode cX2_slotOf 1 = .ok (.ldc 20, 2) := by decide +kernel
theorem dX2_slotOf_3 : decode cX2_slotOf 3 = .ok (.imul, 1) := by decide +kernel
theorem dX2_slotOf_4 : decode cX2_slotOf 4 = .ok (.bipush 22, 2) := by decide +kernel
theorem dX2_slotOf_6 : decode cX2_slotOf 6 = .ok (.iushr, 1) := by decide +kernel
theorem dX2_slotOf_7 : decode cX2_slotOf 7 = .ok (.ireturn, 1) := by decide +kernel
theorem dX3_init_0 : decode cX3_init 0 = .ok (.aload_n 0, 1) := by decide +kernel
theorem dX3_init_1 : decode cX3_init 1 = .ok (.invokespecial 3, 3) := by decide +kernel
theorem dX3_init_4 : decode cX3_init 4 = .ok (.aload_n 0, 1) := by decide +kernel
theorem dX3_init_5 : decode cX3_init 5 = .ok (.iload_n 1, 1) := by decide +kernel
theorem dX3_init_6 : decode cX3_init 6 = .ok (.putfield 9, 3) := by decide +kernel
theorem dX3_init_9 : decode cX3_init 9 = .ok (.aload_n 0, 1) := by decide +kernel
theorem dX3_init_10 : decode cX3_init 10 = .ok (.bipush 40, 2) := by decide +kernel
theorem dX3_init_12 : decode cX3_init 12 = .ok (.iload_n 1, 1) := by decide +kernel
theorem dX3_init_13 : decode cX3_init 13 = .ok (.multianewarray 15 2, 4) := by decide +kernel
theorem dX3_init_17 : decode cX3_init 17 = .ok (.putfield 17, 3) := by decide +kernel
theorem dX3_init_20 : decode cX3_init 20 = .ok (.aload_n 0, 1) := by decide +kernel
theorem dX3_init_21 : decode cX3_init 21 = .ok (.iconst 3, 1) := by decide +kernel
theorem dX3_init_22 : decode cX3_init 22 = .ok (.anewarray 20, 3) := by decide +kernel
theorem dX3_init_25 : decode cX3_init 25 = .ok (.putfield 22, 3) := by decide +kernel
theorem dX3_init_28 : decode cX3_init 28 = .ok (.iconst 0, 1) := by decide +kernel
theorem dX3_init_29 : decode cX3_init 29 = .ok (.istore_n 2, 1) := by decide +kernel
theorem dX3_init_30 : decode cX3_init 30 = .ok (.iload_n 2, 1) := by decide +kernel
theorem dX3_init_31 : decode cX3_init 31 = .ok (.iconst 3, 1) := by decide +kernel
theorem dX3_init_32 : decode cX3_init 32 = .ok (.if_icmp .ge 23, 3) := by decide +kernel
theorem dX3_init_35 : decode cX3_init 35 = .ok (.aload_n 0, 1) := by decide +kernel
theorem dX3_init_36 : decode cX3_init 36 = .ok (.getfield 22, 3) := by decide +kernel
theorem dX3_init_39 : decode cX3_init 39 = .ok (.iload_n 2, 1) := by decide +kernel
theorem dX3_init_40 : decode cX3_init 40 = .ok (.new 20, 3) := by decide +kernel
theorem dX3_init_43 : decode cX3_init 43 = .ok (.dup, 1) := by decide +kernel
theorem dX3_init_44 : decode cX3_init 44 = .ok (.iload_n 1, 1) := by decide +kernel
theorem dX3_init_45 : decode cX3_init 45 = .ok (.invokespecial 26, 3) := by decide +kernel
theorem dX3_init_48 : decode cX3_init 48 = .ok (.aastore, 1) := by decide +kernel
theorem dX3_init_49 : decode cX3_init 49 = .ok (.iinc 2 1, 3) := by decide +kernel
theorem dX3_init_52 : decode cX3_init 52 = .ok (.goto (-22), 3) := by decide +kernel
theorem dX3_init_55 : decode cX3_init 55 = .ok (.aload_n 0, 1) := by decide +kernel
theorem dX3_init_56 : decode cX3_init 56 = .ok (.iconst 0, 1) := by decide +kernel
theorem dX3_init_57 : decode cX3_init 57 = .ok (.putfield 29, 3) := by decide +kernel
theorem dX3_init_60 : decode cX3_init 60 = .ok (.aload_n 0, 1) := by decide +kernel
theorem dX3_init_61 : decode cX3_init 61 = .ok (.bipush (-9), 2) := by decide +kernel
theorem dX3_init_63 : decode cX3_init 63 = .ok (.putfield 32, 3) := by decide +kernel
theorem dX3_init_66 : decode cX3_init 66 = .ok (.aload_n 0, 1) := by decide +kernel
theorem dX3_init_67 : decode cX3_init 67 = .ok (.iconst 0, 1) := by decide +kernel
theorem dX3_init_68 : decode cX3_init 68 = .ok (.putfield 35, 3) := by decide +kernel
theorem dX3_init_71 : decode cX3_init 71 = .ok (.return_, 1) := by decide +kernel
theorem dX3_hasVariable_0 : decode cX3_hasVariable 0 = .ok (.iload_n 1, 1) := by decide +kernel
theorem dX3_hasVariable_1 : decode cX3_hasVariable 1 = .ok (.ifCond .lt 15, 3) := by decide +kernel
theorem dX3_hasVariable_4 : decode cX3_hasVariable 4 = .ok (.iload_n 1, 1) := by decide +kernel
theorem dX3_hasVariable_5 : decode cX3_hasVariable 5 = .ok (.aload_n 0, 1) := by decide +kernel
theorem dX3_hasVariable_6 : decode cX3_hasVariable 6 = .ok (.getfield 9, 3) := by decide +kernel
theorem dX3_hasVariable_9 : decode cX3_hasVariable 9 = .ok (.if_icmp .ge 7, 3) := by decide +kernel
theorem dX3_hasVariable_12 : decode cX3_hasVariable 12 = .ok (.iconst 1, 1) := by decide +kernel
theorem dX3_hasVariable_13 : decode cX3_hasVariable 13 = .ok (.goto 4, 3) := by decide +kernel
theorem dX3_hasVariable_16 : decode cX3_hasVariable 16 = .ok (.iconst 0, 1) := by decide +kernel
theorem dX3_hasVariable_17 : decode cX3_hasVariable 17 = .ok (.ireturn, 1) := by decide +kernel
theorem dX3_sideOf_0 : decode cX3_sideOf 0 = .ok (.aload_n 0, 1) := by decide +kernel
theorem dX3_sideOf_1 : decode cX3_sideOf 1 = .ok (.aload_n 0, 1) := by decide +kernel
theorem dX3_sideOf_2 : decode cX3_sideOf 2 = .ok (.getfield 32, 3) := by decide +kernel
theorem dX3_sideOf_5 : decode cX3_sideOf 5 = .ok (.invokevirtual 38, 3) := by decide +kernel
theorem dX3_sideOf_8 : decode cX3_sideOf 8 = .ok (.ifCond .ne 5, 3) := by decide +kernel
theorem dX3_sideOf_11 : decode cX3_sideOf 11 = .ok (.iconst 0, 1) := by decide +kernel
theorem dX3_sideOf_12 : decode cX3_sideOf 12 = .ok (.ireturn, 1) := by decide +kernel
theorem dX3_sideOf_13 : decode cX3_sideOf 13 = .ok (.aload_n 1, 1) := by decide +kernel
theorem dX3_sideOf_14 : decode cX3_sideOf 14 = .ok (.aload_n 0, 1) := by decide +kernel
theorem dX3_sideOf_15 : decode cX3_sideOf 15 = .ok (.getfield 32, 3) := by decide +kernel
theorem dX3_sideOf_18 : decode cX3_sideOf 18 = .ok (.iaload, 1) := by decide +kernel
theorem dX3_sideOf_19 : decode cX3_sideOf 19 = .ok (.aload_n 0, 1) := by decide +kernel
theorem dX3_sideOf_20 : decode cX3_sideOf 20 = .ok (.getfield 35, 3) := by decide +kernel
theorem dX3_sideOf_23 : decode cX3_sideOf 23 = .ok (.if_icmp .lt 7, 3) := by decide +kernel
theorem dX3_sideOf_26 : decode cX3_sideOf 26 = .ok (.iconst 1, 1) := by decide +kernel
theorem dX3_sideOf_27 : decode cX3_sideOf 27 = .ok (.goto 4, 3) := by decide +kernel
theorem dX3_sideOf_30 : decode cX3_sideOf 30 = .ok (.iconst 2, 1) := by decide +kernel
theorem dX3_sideOf_31 : decode cX3_sideOf 31 = .ok (.ireturn, 1) := by decide +kernel
theorem dX3_keep_0 : decode cX3_keep 0 = .ok (.aload_n 0, 1) := by decide +kernel
theorem dX3_keep_1 : decode cX3_keep 1 = .ok (.getfield 29, 3) := by decide +kernel
theorem dX3_keep_4 : decode cX3_keep 4 = .ok (.bipush 40, 2) := by decide +kernel
theorem dX3_keep_6 : decode cX3_keep 6 = .ok (.if_icmp .ge 26, 3) := by decide +kernel
theorem dX3_keep_9 : decode cX3_keep 9 = .ok (.aload_n 1, 1) := by decide +kernel
theorem dX3_keep_10 : decode cX3_keep 10 = .ok (.aload_n 0, 1) := by decide +kernel
theorem dX3_keep_11 : decode cX3_keep 11 = .ok (.getfield 17, 3) := by decide +kernel
theorem dX3_keep_14 : decode cX3_keep 14 = .ok (.aload_n 0, 1) := by decide +kernel
theorem dX3_keep_15 : decode cX3_keep 15 = .ok (.getfield 29, 3) := by decide +kernel
theorem dX3_keep_18 : decode cX3_keep 18 = .ok (.aaload, 1) := by decide +kernel
theorem dX3_keep_19 : decode cX3_keep 19 = .ok (.invokestatic 42, 3) := by decide +kernel
theorem dX3_keep_22 : decode cX3_keep 22 = .ok (.aload_n 0, 1) := by decide +kernel
theorem dX3_keep_23 : decode cX3_keep 23 = .ok (.dup, 1) := by decide +kernel
theorem dX3_keep_24 : decode cX3_keep 24 = .ok (.getfield 29, 3) := by decide +kernel
theorem dX3_keep_27 : decode cX3_keep 27 = .ok (.iconst 1, 1) := by decide +kernel
theorem dX3_keep_28 : decode cX3_keep 28 = .ok (.iadd, 1) := by decide +kernel
theorem dX3_keep_29 : decode cX3_keep 29 = .ok (.putfield 29, 3) := by decide +kernel
theorem dX3_keep_32 : decode cX3_keep 32 = .ok (.return_, 1) := by decide +kernel
theorem dX3_part_0 : decode cX3_part 0 = .ok (.aload_n 0, 1) := by decide +kernel
theorem dX3_part_1 : decode cX3_part 1 = .ok (.iload_n 1, 1) := by decide +kernel
theorem dX3_part_2 : decode cX3_part 2 = .ok (.putfield 32, 3) := by decide +kernel
theorem dX3_part_5 : decode cX3_part 5 = .ok (.aload_n 0, 1) := by decide +kernel
theorem dX3_part_6 : decode cX3_part 6 = .ok (.iload_n 2, 1) := by decide +kernel
theorem dX3_part_7 : decode cX3_part 7 = .ok (.putfield 35, 3) := by decide +kernel
theorem dX3_part_10 : decode cX3_part 10 = .ok (.aload_n 0, 1) := by decide +kernel
theorem dX3_part_11 : decode cX3_part 11 = .ok (.getfield 22, 3) := by decide +kernel
theorem dX3_part_14 : decode cX3_part 14 = .ok (.iconst 1, 1) := by decide +kernel
theorem dX3_part_15 : decode cX3_part 15 = .ok (.aaload, 1) := by decide +kernel
theorem dX3_part_16 : decode cX3_part 16 = .ok (.invokevirtual 46, 3) := by decide +kernel
theorem dX3_part_19 : decode cX3_part 19 = .ok (.aload_n 0, 1) := by decide +kernel
theorem dX3_part_20 : decode cX3_part 20 = .ok (.getfield 22, 3) := by decide +kernel
theorem dX3_part_23 : decode cX3_part 23 = .ok (.iconst 2, 1) := by decide +kernel
theorem dX3_part_24 : decode cX3_part 24 = .ok (.aaload, 1) := by decide +kernel
theorem dX3_part_25 : decode cX3_part 25 = .ok (.invokevirtual 46, 3) := by decide +kernel
theorem dX3_part_28 : decode cX3_part 28 = .ok (.iconst 0, 1) := by decide +kernel
theorem dX3_part_29 : decode cX3_part 29 = .ok (.istore_n 3, 1) := by decide +kernel
theorem dX3_part_30 : decode cX3_part 30 = .ok (.iload_n 3, 1) := by decide +kernel
theorem dX3_part_31 : decode cX3_part 31 = .ok (.aload_n 0, 1) := by decide +kernel
theorem dX3_part_32 : decode cX3_part 32 = .ok (.getfield 29, 3) := by decide +kernel
theorem dX3_part_35 : decode cX3_part 35 = .ok (.if_icmp .ge 33, 3) := by decide +kernel
theorem dX3_part_38 : decode cX3_part 38 = .ok (.aload_n 0, 1) := by decide +kernel
theorem dX3_part_39 : decode cX3_part 39 = .ok (.getfield 22, 3) := by decide +kernel
theorem dX3_part_42 : decode cX3_part 42 = .ok (.aload_n 0, 1) := by decide +kernel
theorem dX3_part_43 : decode cX3_part 43 = .ok (.aload_n 0, 1) := by decide +kernel
theorem dX3_part_44 : decode cX3_part 44 = .ok (.getfield 17, 3) := by decide +kernel
theorem dX3_part_47 : decode cX3_part 47 = .ok (.iload_n 3, 1) := by decide +kernel
theorem dX3_part_48 : decode cX3_part 48 = .ok (.aaload, 1) := by decide +kernel
theorem dX3_part_49 : decode cX3_part 49 = .ok (.invokevirtual 49, 3) := by decide +kernel
theorem dX3_part_52 : decode cX3_part 52 = .ok (.aaload, 1) := by decide +kernel
theorem dX3_part_53 : decode cX3_part 53 = .ok (.aload_n 0, 1) := by decide +kernel
theorem dX3_part_54 : decode cX3_part 54 = .ok (.getfield 17, 3) := by decide +kernel
theorem dX3_part_57 : decode cX3_part 57 = .ok (.iload_n 3, 1) := by decide +kernel
theorem dX3_part_58 : decode cX3_part 58 = .ok (.aaload, 1) := by decide +kernel
theorem dX3_part_59 : decode cX3_part 59 = .ok (.invokevirtual 53, 3) := by decide +kernel
theorem dX3_part_62 : decode cX3_part 62 = .ok (.iinc 3 1, 3) := by decide +kernel
theorem dX3_part_65 : decode cX3_part 65 = .ok (.goto (-35), 3) := by decide +kernel
theorem dX3_part_68 : decode cX3_part 68 = .ok (.return_, 1) := by decide +kernel
theorem dX4_init_0 : decode cX4_init 0 = .ok (.aload_n 0, 1) := by decide +kernel
theorem dX4_init_1 : decode cX4_init 1 = .ok (.invokespecial 3, 3) := by decide +kernel
theorem dX4_init_4 : decode cX4_init 4 = .ok (.aload_n 0, 1) := by decide +kernel
theorem dX4_init_5 : decode cX4_init 5 = .ok (.bipush 6, 2) := by decide +kernel
theorem dX4_init_7 : decode cX4_init 7 = .ok (.anewarray 9, 3) := by decide +kernel
theorem dX4_init_10 : decode cX4_init 10 = .ok (.putfield 11, 3) := by decide +kernel
theorem dX4_init_13 : decode cX4_init 13 = .ok (.aload_n 0, 1) := by decide +kernel
theorem dX4_init_14 : decode cX4_init 14 = .ok (.bipush 10, 2) := by decide +kernel
theorem dX4_init_16 : decode cX4_init 16 = .ok (.anewarray 17, 3) := by decide +kernel
theorem dX4_init_19 : decode cX4_init 19 = .ok (.putfield 19, 3) := by decide +kernel
theorem dX4_init_22 : decode cX4_init 22 = .ok (.aload_n 0, 1) := by decide +kernel
theorem dX4_init_23 : decode cX4_init 23 = .ok (.iconst 4, 1) := by decide +kernel
theorem dX4_init_24 : decode cX4_init 24 = .ok (.newarray .int, 2) := by decide +kernel
theorem dX4_init_26 : decode cX4_init 26 = .ok (.putfield 23, 3) := by decide +kernel
theorem dX4_init_29 : decode cX4_init 29 = .ok (.aload_n 0, 1) := by decide +kernel
theorem dX4_init_30 : decode cX4_init 30 = .ok (.iconst 5, 1) := by decide +kernel
theorem dX4_init_31 : decode cX4_init 31 = .ok (.newarray .long, 2) := by decide +kernel
theorem dX4_init_33 : decode cX4_init 33 = .ok (.putfield 27, 3) := by decide +kernel
theorem dX4_init_36 : decode cX4_init 36 = .ok (.aload_n 0, 1) := by decide +kernel
theorem dX4_init_37 : decode cX4_init 37 = .ok (.iconst 0, 1) := by decide +kernel
theorem dX4_init_38 : decode cX4_init 38 = .ok (.putfield 31, 3) := by decide +kernel
theorem dX4_init_41 : decode cX4_init 41 = .ok (.aload_n 0, 1) := by decide +kernel
theorem dX4_init_42 : decode cX4_init 42 = .ok (.iconst 0, 1) := by decide +kernel
theorem dX4_init_43 : decode cX4_init 43 = .ok (.putfield 35, 3) := by decide +kernel
theorem dX4_init_46 : decode cX4_init 46 = .ok (.aload_n 0, 1) := by decide +kernel
theorem dX4_init_47 : decode cX4_init 47 = .ok (.bipush (-9), 2) := by decide +kernel
theorem dX4_init_49 : decode cX4_init 49 = .ok (.putfield 38, 3) := by decide +kernel
theorem dX4_init_52 : decode cX4_init 52 = .ok (.return_, 1) := by decide +kernel
theorem dX4_addPoint_0 : decode cX4_addPoint 0 = .ok (.aload_n 0, 1) := by decide +kernel
theorem dX4_addPoint_1 : decode cX4_addPoint 1 = .ok (.getfield 31, 3) := by decide +kernel
theorem dX4_addPoint_4 : decode cX4_addPoint 4 = .ok (.bipush 6, 2) := by decide +kernel
theorem dX4_addPoint_6 : decode cX4_addPoint 6 = .ok (.if_icmp .lt 6, 3) := by decide +kernel
theorem dX4_addPoint_9 : decode cX4_addPoint 9 = .ok (.bipush (-4), 2) := by decide +kernel
theorem dX4_addPoint_11 : decode cX4_addPoint 11 = .ok (.ireturn, 1) := by decide +kernel
theorem dX4_addPoint_12 : decode cX4_addPoint 12 = .ok (.aload_n 0, 1) := by decide +kernel
theorem dX4_addPoint_13 : decode cX4_addPoint 13 = .ok (.getfield 11, 3) := by decide +kernel
theorem dX4_addPoint_16 : decode cX4_addPoint 16 = .ok (.aload_n 0, 1) := by decide +kernel
theorem dX4_addPoint_17 : decode cX4_addPoint 17 = .ok (.getfield 31, 3) := by decide +kernel
theorem dX4_addPoint_20 : decode cX4_addPoint 20 = .ok (.new 9, 3) := by decide +kernel
theorem dX4_addPoint_23 : decode cX4_addPoint 23 = .ok (.dup, 1) := by decide +kernel
theorem dX4_addPoint_24 : decode cX4_addPoint 24 = .ok (.iload_n 1, 1) := by decide +kernel
theorem dX4_addPoint_25 : decode cX4_addPoint 25 = .ok (.invokespecial 41, 3) := by decide +kernel
theorem dX4_addPoint_28 : decode cX4_addPoint 28 = .ok (.aastore, 1) := by decide +kernel
theorem dX4_addPoint_29 : decode cX4_addPoint 29 = .ok (.aload_n 0, 1) := by decide +kernel
theorem dX4_addPoint_30 : decode cX4_addPoint 30 = .ok (.dup, 1) := by decide +kernel
theorem dX4_addPoint_31 : decode cX4_addPoint 31 = .ok (.getfield 31, 3) := by decide +kernel
theorem dX4_addPoint_34 : decode cX4_addPoint 34 = .ok (.iconst 1, 1) := by decide +kernel
theorem dX4_addPoint_35 : decode cX4_addPoint 35 = .ok (.iadd, 1) := by decide +kernel
theorem dX4_addPoint_36 : decode cX4_addPoint 36 = .ok (.putfield 31, 3) := by decide +kernel
theorem dX4_addPoint_39 : decode cX4_addPoint 39 = .ok (.aload_n 0, 1) := by decide +kernel
theorem dX4_addPoint_40 : decode cX4_addPoint 40 = .ok (.getfield 31, 3) := by decide +kernel
theorem dX4_addPoint_43 : decode cX4_addPoint 43 = .ok (.iconst 1, 1) := by decide +kernel
theorem dX4_addPoint_44 : decode cX4_addPoint 44 = .ok (.isub, 1) := by decide +kernel
theorem dX4_addPoint_45 : decode cX4_addPoint 45 = .ok (.ireturn, 1) := by decide +kernel
theorem dX4_addAct_0 : decode cX4_addAct 0 = .ok (.aload_n 0, 1) := by decide +kernel
theorem dX4_addAct_1 : decode cX4_addAct 1 = .ok (.getfield 35, 3) := by decide +kernel
theorem dX4_addAct_4 : decode cX4_addAct 4 = .ok (.bipush 10, 2) := by decide +kernel
theorem dX4_addAct_6 : decode cX4_addAct 6 = .ok (.if_icmp .lt 6, 3) := by decide +kernel
theorem dX4_addAct_9 : decode cX4_addAct 9 = .ok (.bipush (-4), 2) := by decide +kernel
theorem dX4_addAct_11 : decode cX4_addAct 11 = .ok (.ireturn, 1) := by decide +kernel
theorem dX4_addAct_12 : decode cX4_addAct 12 = .ok (.aload_n 0, 1) := by decide +kernel
theorem dX4_addAct_13 : decode cX4_addAct 13 = .ok (.getfield 19, 3) := by decide +kernel
theorem dX4_addAct_16 : decode cX4_addAct 16 = .ok (.aload_n 0, 1) := by decide +kernel
theorem dX4_addAct_17 : decode cX4_addAct 17 = .ok (.getfield 35, 3) := by decide +kernel
theorem dX4_addAct_20 : decode cX4_addAct 20 = .ok (.new 17, 3) := by decide +kernel
theorem dX4_addAct_23 : decode cX4_addAct 23 = .ok (.dup, 1) := by decide +kernel
theorem dX4_addAct_24 : decode cX4_addAct 24 = .ok (.iload_n 1, 1) := by decide +kernel
theorem dX4_addAct_25 : decode cX4_addAct 25 = .ok (.iload_n 2, 1) := by decide +kernel
theorem dX4_addAct_26 : decode cX4_addAct 26 = .ok (.iload_n 3, 1) := by decide +kernel
theorem dX4_addAct_27 : decode cX4_addAct 27 = .ok (.iload 4, 2) := by decide +kernel
theorem dX4_addAct_29 : decode cX4_addAct 29 = .ok (.invokespecial 44, 3) := by decide +kernel
theorem dX4_addAct_32 : decode cX4_addAct 32 = .ok (.aastore, 1) := by decide +kernel
theorem dX4_addAct_33 : decode cX4_addAct 33 = .ok (.aload_n 0, 1) := by decide +kernel
theorem dX4_addAct_34 : decode cX4_addAct 34 = .ok (.dup, 1) := by decide +kernel
theorem dX4_addAct_35 : decode cX4_addAct 35 = .ok (.getfield 35, 3) := by decide +kernel
theorem dX4_addAct_38 : decode cX4_addAct 38 = .ok (.iconst 1, 1) := by decide +kernel
theorem dX4_addAct_39 : decode cX4_addAct 39 = .ok (.iadd, 1) := by decide +kernel
theorem dX4_addAct_40 : decode cX4_addAct 40 = .ok (.putfield 35, 3) := by decide +kernel
theorem dX4_addAct_43 : decode cX4_addAct 43 = .ok (.aload_n 0, 1) := by decide +kernel
theorem dX4_addAct_44 : decode cX4_addAct 44 = .ok (.getfield 35, 3) := by decide +kernel
theorem dX4_addAct_47 : decode cX4_addAct 47 = .ok (.iconst 1, 1) := by decide +kernel
theorem dX4_addAct_48 : decode cX4_addAct 48 = .ok (.isub, 1) := by decide +kernel
theorem dX4_addAct_49 : decode cX4_addAct 49 = .ok (.ireturn, 1) := by decide +kernel
theorem dX4_pointAt_0 : decode cX4_pointAt 0 = .ok (.iload_n 1, 1) := by decide +kernel
theorem dX4_pointAt_1 : decode cX4_pointAt 1 = .ok (.ifCond .lt 20, 3) := by decide +kernel
theorem dX4_pointAt_4 : decode cX4_pointAt 4 = .ok (.iload_n 1, 1) := by decide +kernel
theorem dX4_pointAt_5 : decode cX4_pointAt 5 = .ok (.aload_n 0, 1) := by decide +kernel
theorem dX4_pointAt_6 : decode cX4_pointAt 6 = .ok (.getfield 31, 3) := by decide +kernel
theorem dX4_pointAt_9 : decode cX4_pointAt 9 = .ok (.if_icmp .ge 12, 3) := by decide +kernel
theorem dX4_pointAt_12 : decode cX4_pointAt 12 = .ok (.aload_n 0, 1) := by decide +kernel
theorem dX4_pointAt_13 : decode cX4_pointAt 13 = .ok (.getfield 11, 3) := by decide +kernel
theorem dX4_pointAt_16 : decode cX4_pointAt 16 = .ok (.iload_n 1, 1) := by decide +kernel
theorem dX4_pointAt_17 : decode cX4_pointAt 17 = .ok (.aaload, 1) := by decide +kernel
theorem dX4_pointAt_18 : decode cX4_pointAt 18 = .ok (.goto 4, 3) := by decide +kernel
theorem dX4_pointAt_21 : decode cX4_pointAt 21 = .ok (.aconst_null, 1) := by decide +kernel
theorem dX4_pointAt_22 : decode cX4_pointAt 22 = .ok (.areturn, 1) := by decide +kernel
theorem dX4_factsAt_0 : decode cX4_factsAt 0 = .ok (.aload_n 0, 1) := by decide +kernel
theorem dX4_factsAt_1 : decode cX4_factsAt 1 = .ok (.iload_n 1, 1) := by decide +kernel
theorem dX4_factsAt_2 : decode cX4_factsAt 2 = .ok (.invokevirtual 47, 3) := by decide +kernel
theorem dX4_factsAt_5 : decode cX4_factsAt 5 = .ok (.astore_n 3, 1) := by decide +kernel
theorem dX4_factsAt_6 : decode cX4_factsAt 6 = .ok (.aload_n 3, 1) := by decide +kernel
theorem dX4_factsAt_7 : decode cX4_factsAt 7 = .ok (.ifnull 12, 3) := by decide +kernel
theorem dX4_factsAt_10 : decode cX4_factsAt 10 = .ok (.iload_n 2, 1) := by decide +kernel
theorem dX4_factsAt_11 : decode cX4_factsAt 11 = .ok (.ifCond .lt 8, 3) := by decide +kernel
theorem dX4_factsAt_14 : decode cX4_factsAt 14 = .ok (.iload_n 2, 1) := by decide +kernel
theorem dX4_factsAt_15 : decode cX4_factsAt 15 = .ok (.iconst 3, 1) := by decide +kernel
theorem dX4_factsAt_16 : decode cX4_factsAt 16 = .ok (.if_icmp .lt 7, 3) := by decide +kernel
theorem dX4_factsAt_19 : decode cX4_factsAt 19 = .ok (.aconst_null, 1) := by decide +kernel
theorem dX4_factsAt_20 : decode cX4_factsAt 20 = .ok (.goto 9, 3) := by decide +kernel
theorem dX4_factsAt_23 : decode cX4_factsAt 23 = .ok (.aload_n 3, 1) := by decide +kernel
theorem dX4_factsAt_24 : decode cX4_factsAt 24 = .ok (.getfield 51, 3) := by decide +kernel
theorem dX4_factsAt_27 : decode cX4_factsAt 27 = .ok (.iload_n 2, 1) := by decide +kernel
theorem dX4_factsAt_28 : decode cX4_factsAt 28 = .ok (.aaload, 1) := by decide +kernel
theorem dX4_factsAt_29 : decode cX4_factsAt 29 = .ok (.areturn, 1) := by decide +kernel
theorem dX4_actAt_0 : decode cX4_actAt 0 = .ok (.iload_n 1, 1) := by decide +kernel
theorem dX4_actAt_1 : decode cX4_actAt 1 = .ok (.ifCond .lt 20, 3) := by decide +kernel
theorem dX4_actAt_4 : decode cX4_actAt 4 = .ok (.iload_n 1, 1) := by decide +kernel
theorem dX4_actAt_5 : decode cX4_actAt 5 = .ok (.aload_n 0, 1) := by decide +kernel
theorem dX4_actAt_6 : decode cX4_actAt 6 = .ok (.getfield 35, 3) := by decide +kernel
theorem dX4_actAt_9 : decode cX4_actAt 9 = .ok (.if_icmp .ge 12, 3) := by decide +kernel
theorem dX4_actAt_12 : decode cX4_actAt 12 = .ok (.aload_n 0, 1) := by decide +kernel
theorem dX4_actAt_13 : decode cX4_actAt 13 = .ok (.getfield 19, 3) := by decide +kernel
theorem dX4_actAt_16 : decode cX4_actAt 16 = .ok (.iload_n 1, 1) := by decide +kernel
theorem dX4_actAt_17 : decode cX4_actAt 17 = .ok (.aaload, 1) := by decide +kernel
theorem dX4_actAt_18 : decode cX4_actAt 18 = .ok (.goto 4, 3) := by decide +kernel
theorem dX4_actAt_21 : decode cX4_actAt 21 = .ok (.aconst_null, 1) := by decide +kernel
theorem dX4_actAt_22 : decode cX4_actAt 22 = .ok (.areturn, 1) := by decide +kernel
theorem dX4_hasStart_0 : decode cX4_hasStart 0 = .ok (.aload_n 0, 1) := by decide +kernel
theorem dX4_hasStart_1 : decode cX4_hasStart 1 = .ok (.getfield 38, 3) := by decide +kernel
theorem dX4_hasStart_4 : decode cX4_hasStart 4 = .ok (.ifCond .lt 7, 3) := by decide +kernel
theorem dX4_hasStart_7 : decode cX4_hasStart 7 = .ok (.iconst 1, 1) := by decide +kernel
theorem dX4_hasStart_8 : decode cX4_hasStart 8 = .ok (.goto 4, 3) := by decide +kernel
theorem dX4_hasStart_11 : decode cX4_hasStart 11 = .ok (.iconst 0, 1) := by decide +kernel
theorem dX4_hasStart_12 : decode cX4_hasStart 12 = .ok (.ireturn, 1) := by decide +kernel
theorem dX4_setStart_0 : decode cX4_setStart 0 = .ok (.aload_n 0, 1) := by decide +kernel
theorem dX4_setStart_1 : decode cX4_setStart 1 = .ok (.iload_n 1, 1) := by decide +kernel
theorem dX4_setStart_2 : decode cX4_setStart 2 = .ok (.putfield 38, 3) := by decide +kernel
theorem dX4_setStart_5 : decode cX4_setStart 5 = .ok (.aload_n 2, 1) := by decide +kernel
theorem dX4_setStart_6 : decode cX4_setStart 6 = .ok (.aload_n 0, 1) := by decide +kernel
theorem dX4_setStart_7 : decode cX4_setStart 7 = .ok (.getfield 23, 3) := by decide +kernel
theorem dX4_setStart_10 : decode cX4_setStart 10 = .ok (.invokestatic 55, 3) := by decide +kernel
theorem dX4_setStart_13 : decode cX4_setStart 13 = .ok (.return_, 1) := by decide +kernel
theorem dX4_sumWrongAtStart_0 : decode cX4_sumWrongAtStart 0 = .ok (.aload_n 0, 1) := by decide +kernel
theorem dX4_sumWrongAtStart_1 : decode cX4_sumWrongAtStart 1 = .ok (.aload_n 0, 1) := by decide +kernel
theorem dX4_sumWrongAtStart_2 : decode cX4_sumWrongAtStart 2 = .ok (.getfield 38, 3) := by decide +kernel
theorem dX4_sumWrongAtStart_5 : decode cX4_sumWrongAtStart 5 = .ok (.iconst 0, 1) := by decide +kernel
theorem dX4_sumWrongAtStart_6 : decode cX4_sumWrongAtStart 6 = .ok (.invokevirtual 59, 3) := by decide +kernel
theorem dX4_sumWrongAtStart_9 : decode cX4_sumWrongAtStart 9 = .ok (.astore_n 1, 1) := by decide +kernel
theorem dX4_sumWrongAtStart_10 : decode cX4_sumWrongAtStart 10 = .ok (.aload_n 1, 1) := by decide +kernel
theorem dX4_sumWrongAtStart_11 : decode cX4_sumWrongAtStart 11 = .ok (.ifnonnull 5, 3) := by decide +kernel
theorem dX4_sumWrongAtStart_14 : decode cX4_sumWrongAtStart 14 = .ok (.iconst (-1), 1) := by decide +kernel
theorem dX4_sumWrongAtStart_15 : decode cX4_sumWrongAtStart 15 = .ok (.ireturn, 1) := by decide +kernel
theorem dX4_sumWrongAtStart_16 : decode cX4_sumWrongAtStart 16 = .ok (.iconst 0, 1) := by decide +kernel
theorem dX4_sumWrongAtStart_17 : decode cX4_sumWrongAtStart 17 = .ok (.istore_n 2, 1) := by decide +kernel
theorem dX4_sumWrongAtStart_18 : decode cX4_sumWrongAtStart 18 = .ok (.iload_n 2, 1) := by decide +kernel
theorem dX4_sumWrongAtStart_19 : decode cX4_sumWrongAtStart 19 = .ok (.aload_n 1, 1) := by decide +kernel
theorem dX4_sumWrongAtStart_20 : decode cX4_sumWrongAtStart 20 = .ok (.invokevirtual 63, 3) := by decide +kernel
theorem dX4_sumWrongAtStart_23 : decode cX4_sumWrongAtStart 23 = .ok (.if_icmp .ge 71, 3) := by decide +kernel
theorem dX4_sumWrongAtStart_26 : decode cX4_sumWrongAtStart 26 = .ok (.aload_n 1, 1) := by decide +kernel
theorem dX4_sumWrongAtStart_27 : decode cX4_sumWrongAtStart 27 = .ok (.getfield 69, 3) := by decide +kernel
theorem dX4_sumWrongAtStart_30 : decode cX4_sumWrongAtStart 30 = .ok (.iload_n 2, 1) := by decide +kernel
theorem dX4_sumWrongAtStart_31 : decode cX4_sumWrongAtStart 31 = .ok (.invokevirtual 73, 3) := by decide +kernel
theorem dX4_sumWrongAtStart_34 : decode cX4_sumWrongAtStart 34 = .ok (.astore_n 3, 1) := by decide +kernel
theorem dX4_sumWrongAtStart_35 : decode cX4_sumWrongAtStart 35 = .ok (.aload_n 3, 1) := by decide +kernel
theorem dX4_sumWrongAtStart_36 : decode cX4_sumWrongAtStart 36 = .ok (.aload_n 1, 1) := by decide +kernel
theorem dX4_sumWrongAtStart_37 : decode cX4_sumWrongAtStart 37 = .ok (.getfield 79, 3) := by decide +kernel
theorem dX4_sumWrongAtStart_40 : decode cX4_sumWrongAtStart 40 = .ok (.laload, 1) := by decide +kernel
theorem dX4_sumWrongAtStart_41 : decode cX4_sumWrongAtStart 41 = .ok (.lstore 4, 2) := by decide +kernel
theorem dX4_sumWrongAtStart_43 : decode cX4_sumWrongAtStart 43 = .ok (.iconst 0, 1) := by decide +kernel
theorem dX4_sumWrongAtStart_44 : decode cX4_sumWrongAtStart 44 = .ok (.istore 6, 2) := by decide +kernel
theorem dX4_sumWrongAtStart_46 : decode cX4_sumWrongAtStart 46 = .ok (.iload 6, 2) := by decide +kernel
theorem dX4_sumWrongAtStart_48 : decode cX4_sumWrongAtStart 48 = .ok (.aload_n 1, 1) := by decide +kernel
theorem dX4_sumWrongAtStart_49 : decode cX4_sumWrongAtStart 49 = .ok (.getfield 79, 3) := by decide +kernel
theorem dX4_sumWrongAtStart_52 : decode cX4_sumWrongAtStart 52 = .ok (.if_icmp .ge 27, 3) := by decide +kernel
theorem dX4_sumWrongAtStart_55 : decode cX4_sumWrongAtStart 55 = .ok (.lload 4, 2) := by decide +kernel
theorem dX4_sumWrongAtStart_57 : decode cX4_sumWrongAtStart 57 = .ok (.aload_n 3, 1) := by decide +kernel
theorem dX4_sumWrongAtStart_58 : decode cX4_sumWrongAtStart 58 = .ok (.iload 6, 2) := by decide +kernel
theorem dX4_sumWrongAtStart_60 : decode cX4_sumWrongAtStart 60 = .ok (.laload, 1) := by decide +kernel
theorem dX4_sumWrongAtStart_61 : decode cX4_sumWrongAtStart 61 = .ok (.aload_n 0, 1) := by decide +kernel
