theorem dX8_act_45 : decode cX8_act 45 = .ok (.getfield 241, 3) := by decide +kernel
theorem dX8_act_48 : decode cX8_act 48 = .ok (.iload_n 2, 1) := by decide +kernel
theorem dX8_act_49 : decode cX8_act 49 = .ok (.iastore, 1) := by decide +kernel
theorem dX8_act_50 : decode cX8_act 50 = .ok (.aload_n 0, 1) := by decide +kernel
theorem dX8_act_51 : decode cX8_act 51 = .ok (.dup, 1) := by decide +kernel
theorem dX8_act_52 : decode cX8_act 52 = .ok (.getfield 241, 3) := by decide +kernel
theorem dX8_act_55 : decode cX8_act 55 = .ok (.iconst 1, 1) := by decide +kernel
theorem dX8_act_56 : decode cX8_act 56 = .ok (.iadd, 1) := by decide +kernel
theorem dX8_act_57 : decode cX8_act 57 = .ok (.putfield 241, 3) := by decide +kernel
theorem dX8_act_60 : decode cX8_act 60 = .ok (.aload_n 0, 1) := by decide +kernel
theorem dX8_act_61 : decode cX8_act 61 = .ok (.getfield 241, 3) := by decide +kernel
theorem dX8_act_64 : decode cX8_act 64 = .ok (.iconst 1, 1) := by decide +kernel
theorem dX8_act_65 : decode cX8_act 65 = .ok (.isub, 1) := by decide +kernel
theorem dX8_act_66 : decode cX8_act 66 = .ok (.ireturn, 1) := by decide +kernel
theorem dX8_noMade_0 : decode cX8_noMade 0 = .ok (.iload_n 1, 1) := by decide +kernel
theorem dX8_noMade_1 : decode cX8_noMade 1 = .ok (.iconst 0, 1) := by decide +kernel
theorem dX8_noMade_2 : decode cX8_noMade 2 = .ok (.aload_n 0, 1) := by decide +kernel
theorem dX8_noMade_3 : decode cX8_noMade 3 = .ok (.getfield 241, 3) := by decide +kernel
theorem dX8_noMade_6 : decode cX8_noMade 6 = .ok (.iconst 1, 1) := by decide +kernel
theorem dX8_noMade_7 : decode cX8_noMade 7 = .ok (.isub, 1) := by decide +kernel
theorem dX8_noMade_8 : decode cX8_noMade 8 = .ok (.invokestatic 115, 3) := by decide +kernel
theorem dX8_noMade_11 : decode cX8_noMade 11 = .ok (.ifCond .eq 24, 3) := by decide +kernel
theorem dX8_noMade_14 : decode cX8_noMade 14 = .ok (.iload_n 2, 1) := by decide +kernel
theorem dX8_noMade_15 : decode cX8_noMade 15 = .ok (.iconst 0, 1) := by decide +kernel
theorem dX8_noMade_16 : decode cX8_noMade 16 = .ok (.aload_n 0, 1) := by decide +kernel
theorem dX8_noMade_17 : decode cX8_noMade 17 = .ok (.getfield 7, 3) := by decide +kernel
theorem dX8_noMade_20 : decode cX8_noMade 20 = .ok (.aload_n 0, 1) := by decide +kernel
theorem dX8_noMade_21 : decode cX8_noMade 21 = .ok (.getfield 63, 3) := by decide +kernel
theorem dX8_noMade_24 : decode cX8_noMade 24 = .ok (.iload_n 1, 1) := by decide +kernel
theorem dX8_noMade_25 : decode cX8_noMade 25 = .ok (.iaload, 1) := by decide +kernel
theorem dX8_noMade_26 : decode cX8_noMade 26 = .ok (.iaload, 1) := by decide +kernel
theorem dX8_noMade_27 : decode cX8_noMade 27 = .ok (.iconst 1, 1) := by decide +kernel
theorem dX8_noMade_28 : decode cX8_noMade 28 = .ok (.isub, 1) := by decide +kernel
theorem dX8_noMade_29 : decode cX8_noMade 29 = .ok (.invokestatic 115, 3) := by decide +kernel
theorem dX8_noMade_32 : decode cX8_noMade 32 = .ok (.ifCond .ne 7, 3) := by decide +kernel
theorem dX8_noMade_35 : decode cX8_noMade 35 = .ok (.iconst 1, 1) := by decide +kernel
theorem dX8_noMade_36 : decode cX8_noMade 36 = .ok (.goto 4, 3) := by decide +kernel
theorem dX8_noMade_39 : decode cX8_noMade 39 = .ok (.iconst 0, 1) := by decide +kernel
theorem dX8_noMade_40 : decode cX8_noMade 40 = .ok (.ireturn, 1) := by decide +kernel
theorem dX8_makes_0 : decode cX8_makes 0 = .ok (.aload_n 0, 1) := by decide +kernel
theorem dX8_makes_1 : decode cX8_makes 1 = .ok (.iload_n 1, 1) := by decide +kernel
theorem dX8_makes_2 : decode cX8_makes 2 = .ok (.iload_n 2, 1) := by decide +kernel
theorem dX8_makes_3 : decode cX8_makes 3 = .ok (.invokevirtual 244, 3) := by decide +kernel
theorem dX8_makes_6 : decode cX8_makes 6 = .ok (.ifCond .eq 5, 3) := by decide +kernel
theorem dX8_makes_9 : decode cX8_makes 9 = .ok (.iconst (-1), 1) := by decide +kernel
theorem dX8_makes_10 : decode cX8_makes 10 = .ok (.ireturn, 1) := by decide +kernel
theorem dX8_makes_11 : decode cX8_makes 11 = .ok (.aload_n 0, 1) := by decide +kernel
theorem dX8_makes_12 : decode cX8_makes 12 = .ok (.getfield 7, 3) := by decide +kernel
theorem dX8_makes_15 : decode cX8_makes 15 = .ok (.aload_n 0, 1) := by decide +kernel
theorem dX8_makes_16 : decode cX8_makes 16 = .ok (.getfield 60, 3) := by decide +kernel
theorem dX8_makes_19 : decode cX8_makes 19 = .ok (.iload_n 1, 1) := by decide +kernel
theorem dX8_makes_20 : decode cX8_makes 20 = .ok (.iaload, 1) := by decide +kernel
theorem dX8_makes_21 : decode cX8_makes 21 = .ok (.iaload, 1) := by decide +kernel
theorem dX8_makes_22 : decode cX8_makes 22 = .ok (.istore 8, 2) := by decide +kernel
theorem dX8_makes_24 : decode cX8_makes 24 = .ok (.iload_n 3, 1) := by decide +kernel
theorem dX8_makes_25 : decode cX8_makes 25 = .ok (.bipush (-9), 2) := by decide +kernel
theorem dX8_makes_27 : decode cX8_makes 27 = .ok (.bipush 9, 2) := by decide +kernel
theorem dX8_makes_29 : decode cX8_makes 29 = .ok (.invokestatic 115, 3) := by decide +kernel
theorem dX8_makes_32 : decode cX8_makes 32 = .ok (.ifCond .eq 69, 3) := by decide +kernel
theorem dX8_makes_35 : decode cX8_makes 35 = .ok (.iload 8, 2) := by decide +kernel
theorem dX8_makes_37 : decode cX8_makes 37 = .ok (.iconst 1, 1) := by decide +kernel
theorem dX8_makes_38 : decode cX8_makes 38 = .ok (.if_icmp .le 15, 3) := by decide +kernel
theorem dX8_makes_41 : decode cX8_makes 41 = .ok (.iload 4, 2) := by decide +kernel
theorem dX8_makes_43 : decode cX8_makes 43 = .ok (.bipush (-9), 2) := by decide +kernel
theorem dX8_makes_45 : decode cX8_makes 45 = .ok (.bipush 9, 2) := by decide +kernel
theorem dX8_makes_47 : decode cX8_makes 47 = .ok (.invokestatic 115, 3) := by decide +kernel
theorem dX8_makes_50 : decode cX8_makes 50 = .ok (.ifCond .eq 51, 3) := by decide +kernel
theorem dX8_makes_53 : decode cX8_makes 53 = .ok (.iload 8, 2) := by decide +kernel
theorem dX8_makes_55 : decode cX8_makes 55 = .ok (.iconst 2, 1) := by decide +kernel
theorem dX8_makes_56 : decode cX8_makes 56 = .ok (.if_icmp .le 15, 3) := by decide +kernel
theorem dX8_makes_59 : decode cX8_makes 59 = .ok (.iload 5, 2) := by decide +kernel
theorem dX8_makes_61 : decode cX8_makes 61 = .ok (.bipush (-9), 2) := by decide +kernel
theorem dX8_makes_63 : decode cX8_makes 63 = .ok (.bipush 9, 2) := by decide +kernel
theorem dX8_makes_65 : decode cX8_makes 65 = .ok (.invokestatic 115, 3) := by decide +kernel
theorem dX8_makes_68 : decode cX8_makes 68 = .ok (.ifCond .eq 33, 3) := by decide +kernel
theorem dX8_makes_71 : decode cX8_makes 71 = .ok (.iload 8, 2) := by decide +kernel
theorem dX8_makes_73 : decode cX8_makes 73 = .ok (.iconst 3, 1) := by decide +kernel
theorem dX8_makes_74 : decode cX8_makes 74 = .ok (.if_icmp .le 15, 3) := by decide +kernel
theorem dX8_makes_77 : decode cX8_makes 77 = .ok (.iload 6, 2) := by decide +kernel
theorem dX8_makes_79 : decode cX8_makes 79 = .ok (.bipush (-9), 2) := by decide +kernel
theorem dX8_makes_81 : decode cX8_makes 81 = .ok (.bipush 9, 2) := by decide +kernel
theorem dX8_makes_83 : decode cX8_makes 83 = .ok (.invokestatic 115, 3) := by decide +kernel
theorem dX8_makes_86 : decode cX8_makes 86 = .ok (.ifCond .eq 15, 3) := by decide +kernel
theorem dX8_makes_89 : decode cX8_makes 89 = .ok (.iload 7, 2) := by decide +kernel
theorem dX8_makes_91 : decode cX8_makes 91 = .ok (.bipush (-99), 2) := by decide +kernel
theorem dX8_makes_93 : decode cX8_makes 93 = .ok (.bipush 99, 2) := by decide +kernel
theorem dX8_makes_95 : decode cX8_makes 95 = .ok (.invokestatic 115, 3) := by decide +kernel
theorem dX8_makes_98 : decode cX8_makes 98 = .ok (.ifCond .ne 6, 3) := by decide +kernel
theorem dX8_makes_101 : decode cX8_makes 101 = .ok (.bipush (-2), 2) := by decide +kernel
theorem dX8_makes_103 : decode cX8_makes 103 = .ok (.ireturn, 1) := by decide +kernel
theorem dX8_makes_104 : decode cX8_makes 104 = .ok (.bipush 20, 2) := by decide +kernel
theorem dX8_makes_106 : decode cX8_makes 106 = .ok (.iload_n 1, 1) := by decide +kernel
theorem dX8_makes_107 : decode cX8_makes 107 = .ok (.imul, 1) := by decide +kernel
theorem dX8_makes_108 : decode cX8_makes 108 = .ok (.iconst 5, 1) := by decide +kernel
theorem dX8_makes_109 : decode cX8_makes 109 = .ok (.iload_n 2, 1) := by decide +kernel
theorem dX8_makes_110 : decode cX8_makes 110 = .ok (.imul, 1) := by decide +kernel
theorem dX8_makes_111 : decode cX8_makes 111 = .ok (.iadd, 1) := by decide +kernel
theorem dX8_makes_112 : decode cX8_makes 112 = .ok (.istore 9, 2) := by decide +kernel
theorem dX8_makes_114 : decode cX8_makes 114 = .ok (.aload_n 0, 1) := by decide +kernel
theorem dX8_makes_115 : decode cX8_makes 115 = .ok (.getfield 66, 3) := by decide +kernel
theorem dX8_makes_118 : decode cX8_makes 118 = .ok (.iload 9, 2) := by decide +kernel
theorem dX8_makes_120 : decode cX8_makes 120 = .ok (.iload_n 3, 1) := by decide +kernel
theorem dX8_makes_121 : decode cX8_makes 121 = .ok (.iastore, 1) := by decide +kernel
theorem dX8_makes_122 : decode cX8_makes 122 = .ok (.aload_n 0, 1) := by decide +kernel
theorem dX8_makes_123 : decode cX8_makes 123 = .ok (.getfield 66, 3) := by decide +kernel
theorem dX8_makes_126 : decode cX8_makes 126 = .ok (.iload 9, 2) := by decide +kernel
theorem dX8_makes_128 : decode cX8_makes 128 = .ok (.iconst 1, 1) := by decide +kernel
theorem dX8_makes_129 : decode cX8_makes 129 = .ok (.iadd, 1) := by decide +kernel
theorem dX8_makes_130 : decode cX8_makes 130 = .ok (.iload 8, 2) := by decide +kernel
theorem dX8_makes_132 : decode cX8_makes 132 = .ok (.iconst 1, 1) := by decide +kernel
theorem dX8_makes_133 : decode cX8_makes 133 = .ok (.if_icmp .le 8, 3) := by decide +kernel
theorem dX8_makes_136 : decode cX8_makes 136 = .ok (.iload 4, 2) := by decide +kernel
theorem dX8_makes_138 : decode cX8_makes 138 = .ok (.goto 4, 3) := by decide +kernel
theorem dX8_makes_141 : decode cX8_makes 141 = .ok (.iconst 0, 1) := by decide +kernel
theorem dX8_makes_142 : decode cX8_makes 142 = .ok (.iastore, 1) := by decide +kernel
theorem dX8_makes_143 : decode cX8_makes 143 = .ok (.aload_n 0, 1) := by decide +kernel
theorem dX8_makes_144 : decode cX8_makes 144 = .ok (.getfield 66, 3) := by decide +kernel
theorem dX8_makes_147 : decode cX8_makes 147 = .ok (.iload 9, 2) := by decide +kernel
theorem dX8_makes_149 : decode cX8_makes 149 = .ok (.iconst 2, 1) := by decide +kernel
theorem dX8_makes_150 : decode cX8_makes 150 = .ok (.iadd, 1) := by decide +kernel
theorem dX8_makes_151 : decode cX8_makes 151 = .ok (.iload 8, 2) := by decide +kernel
theorem dX8_makes_153 : decode cX8_makes 153 = .ok (.iconst 2, 1) := by decide +kernel
theorem dX8_makes_154 : decode cX8_makes 154 = .ok (.if_icmp .le 8, 3) := by decide +kernel
theorem dX8_makes_157 : decode cX8_makes 157 = .ok (.iload 5, 2) := by decide +kernel
theorem dX8_makes_159 : decode cX8_makes 159 = .ok (.goto 4, 3) := by decide +kernel
theorem dX8_makes_162 : decode cX8_makes 162 = .ok (.iconst 0, 1) := by decide +kernel
theorem dX8_makes_163 : decode cX8_makes 163 = .ok (.iastore, 1) := by decide +kernel
theorem dX8_makes_164 : decode cX8_makes 164 = .ok (.aload_n 0, 1) := by decide +kernel
theorem dX8_makes_165 : decode cX8_makes 165 = .ok (.getfield 66, 3) := by decide +kernel
theorem dX8_makes_168 : decode cX8_makes 168 = .ok (.iload 9, 2) := by decide +kernel
theorem dX8_makes_170 : decode cX8_makes 170 = .ok (.iconst 3, 1) := by decide +kernel
theorem dX8_makes_171 : decode cX8_makes 171 = .ok (.iadd, 1) := by decide +kernel
theorem dX8_makes_172 : decode cX8_makes 172 = .ok (.iload 8, 2) := by decide +kernel
theorem dX8_makes_174 : decode cX8_makes 174 = .ok (.iconst 3, 1) := by decide +kernel
theorem dX8_makes_175 : decode cX8_makes 175 = .ok (.if_icmp .le 8, 3) := by decide +kernel
theorem dX8_makes_178 : decode cX8_makes 178 = .ok (.iload 6, 2) := by decide +kernel
theorem dX8_makes_180 : decode cX8_makes 180 = .ok (.goto 4, 3) := by decide +kernel
theorem dX8_makes_183 : decode cX8_makes 183 = .ok (.iconst 0, 1) := by decide +kernel
theorem dX8_makes_184 : decode cX8_makes 184 = .ok (.iastore, 1) := by decide +kernel
theorem dX8_makes_185 : decode cX8_makes 185 = .ok (.aload_n 0, 1) := by decide +kernel
theorem dX8_makes_186 : decode cX8_makes 186 = .ok (.getfield 66, 3) := by decide +kernel
theorem dX8_makes_189 : decode cX8_makes 189 = .ok (.iload 9, 2) := by decide +kernel
theorem dX8_makes_191 : decode cX8_makes 191 = .ok (.iconst 4, 1) := by decide +kernel
theorem dX8_makes_192 : decode cX8_makes 192 = .ok (.iadd, 1) := by decide +kernel
theorem dX8_makes_193 : decode cX8_makes 193 = .ok (.iload 7, 2) := by decide +kernel
theorem dX8_makes_195 : decode cX8_makes 195 = .ok (.iastore, 1) := by decide +kernel
theorem dX8_makes_196 : decode cX8_makes 196 = .ok (.iconst 1, 1) := by decide +kernel
theorem dX8_makes_197 : decode cX8_makes 197 = .ok (.ireturn, 1) := by decide +kernel
theorem dX8_made_0 : decode cX8_made 0 = .ok (.aload_n 0, 1) := by decide +kernel
theorem dX8_made_1 : decode cX8_made 1 = .ok (.iload_n 1, 1) := by decide +kernel
theorem dX8_made_2 : decode cX8_made 2 = .ok (.iload_n 2, 1) := by decide +kernel
theorem dX8_made_3 : decode cX8_made 3 = .ok (.invokevirtual 244, 3) := by decide +kernel
theorem dX8_made_6 : decode cX8_made 6 = .ok (.ifCond .eq 7, 3) := by decide +kernel
theorem dX8_made_9 : decode cX8_made 9 = .ok (.iconst (-1), 1) := by decide +kernel
theorem dX8_made_10 : decode cX8_made 10 = .ok (.goto 32, 3) := by decide +kernel
theorem dX8_made_13 : decode cX8_made 13 = .ok (.iload_n 3, 1) := by decide +kernel
theorem dX8_made_14 : decode cX8_made 14 = .ok (.iconst 0, 1) := by decide +kernel
theorem dX8_made_15 : decode cX8_made 15 = .ok (.iconst 4, 1) := by decide +kernel
theorem dX8_made_16 : decode cX8_made 16 = .ok (.invokestatic 115, 3) := by decide +kernel
theorem dX8_made_19 : decode cX8_made 19 = .ok (.ifCond .eq 21, 3) := by decide +kernel
theorem dX8_made_22 : decode cX8_made 22 = .ok (.aload_n 0, 1) := by decide +kernel
theorem dX8_made_23 : decode cX8_made 23 = .ok (.getfield 66, 3) := by decide +kernel
theorem dX8_made_26 : decode cX8_made 26 = .ok (.bipush 20, 2) := by decide +kernel
theorem dX8_made_28 : decode cX8_made 28 = .ok (.iload_n 1, 1) := by decide +kernel
theorem dX8_made_29 : decode cX8_made 29 = .ok (.imul, 1) := by decide +kernel
theorem dX8_made_30 : decode cX8_made 30 = .ok (.iconst 5, 1) := by decide +kernel
theorem dX8_made_31 : decode cX8_made 31 = .ok (.iload_n 2, 1) := by decide +kernel
theorem dX8_made_32 : decode cX8_made 32 = .ok (.imul, 1) := by decide +kernel
theorem dX8_made_33 : decode cX8_made 33 = .ok (.iadd, 1) := by decide +kernel
theorem dX8_made_34 : decode cX8_made 34 = .ok (.iload_n 3, 1) := by decide +kernel
theorem dX8_made_35 : decode cX8_made 35 = .ok (.iadd, 1) := by decide +kernel
theorem dX8_made_36 : decode cX8_made 36 = .ok (.iaload, 1) := by decide +kernel
theorem dX8_made_37 : decode cX8_made 37 = .ok (.goto 5, 3) := by decide +kernel
theorem dX8_made_40 : decode cX8_made 40 = .ok (.bipush (-2), 2) := by decide +kernel
theorem dX8_made_42 : decode cX8_made 42 = .ok (.ireturn, 1) := by decide +kernel
theorem dX8_isSum_0 : decode cX8_isSum 0 = .ok (.aload_n 0, 1) := by decide +kernel
theorem dX8_isSum_1 : decode cX8_isSum 1 = .ok (.iload_n 1, 1) := by decide +kernel
theorem dX8_isSum_2 : decode cX8_isSum 2 = .ok (.iconst 0, 1) := by decide +kernel
theorem dX8_isSum_3 : decode cX8_isSum 3 = .ok (.invokevirtual 227, 3) := by decide +kernel
theorem dX8_isSum_6 : decode cX8_isSum 6 = .ok (.iconst 1, 1) := by decide +kernel
theorem dX8_isSum_7 : decode cX8_isSum 7 = .ok (.istore_n 2, 1) := by decide +kernel
theorem dX8_isSum_8 : decode cX8_isSum 8 = .ok (.iconst 0, 1) := by decide +kernel
theorem dX8_isSum_9 : decode cX8_isSum 9 = .ok (.istore_n 3, 1) := by decide +kernel
theorem dX8_isSum_10 : decode cX8_isSum 10 = .ok (.iload_n 3, 1) := by decide +kernel
theorem dX8_isSum_11 : decode cX8_isSum 11 = .ok (.aload_n 0, 1) := by decide +kernel
theorem dX8_isSum_12 : decode cX8_isSum 12 = .ok (.getfield 214, 3) := by decide +kernel
theorem dX8_isSum_15 : decode cX8_isSum 15 = .ok (.if_icmp .ge 37, 3) := by decide +kernel
theorem dX8_isSum_18 : decode cX8_isSum 18 = .ok (.aload_n 0, 1) := by decide +kernel
theorem dX8_isSum_19 : decode cX8_isSum 19 = .ok (.getfield 217, 3) := by decide +kernel
theorem dX8_isSum_22 : decode cX8_isSum 22 = .ok (.ifCond .ne 30, 3) := by decide +kernel
theorem dX8_isSum_25 : decode cX8_isSum 25 = .ok (.iload_n 2, 1) := by decide +kernel
theorem dX8_isSum_26 : decode cX8_isSum 26 = .ok (.ifCond .eq 18, 3) := by decide +kernel
theorem dX8_isSum_29 : decode cX8_isSum 29 = .ok (.aload_n 0, 1) := by decide +kernel
theorem dX8_isSum_30 : decode cX8_isSum 30 = .ok (.getfield 69, 3) := by decide +kernel
theorem dX8_isSum_33 : decode cX8_isSum 33 = .ok (.iload_n 3, 1) := by decide +kernel
theorem dX8_isSum_34 : decode cX8_isSum 34 = .ok (.laload, 1) := by decide +kernel
theorem dX8_isSum_35 : decode cX8_isSum 35 = .ok (.lconst 0, 1) := by decide +kernel
theorem dX8_isSum_36 : decode cX8_isSum 36 = .ok (.lcmp, 1) := by decide +kernel
theorem dX8_isSum_37 : decode cX8_isSum 37 = .ok (.ifCond .ne 7, 3) := by decide +kernel
theorem dX8_isSum_40 : decode cX8_isSum 40 = .ok (.iconst 1, 1) := by decide +kernel
theorem dX8_isSum_41 : decode cX8_isSum 41 = .ok (.goto 4, 3) := by decide +kernel
theorem dX8_isSum_44 : decode cX8_isSum 44 = .ok (.iconst 0, 1) := by decide +kernel
theorem dX8_isSum_45 : decode cX8_isSum 45 = .ok (.istore_n 2, 1) := by decide +kernel
theorem dX8_isSum_46 : decode cX8_isSum 46 = .ok (.iinc 3 1, 3) := by decide +kernel
theorem dX8_isSum_49 : decode cX8_isSum 49 = .ok (.goto (-39), 3) := by decide +kernel
theorem dX8_isSum_52 : decode cX8_isSum 52 = .ok (.iconst 0, 1) := by decide +kernel
theorem dX8_isSum_53 : decode cX8_isSum 53 = .ok (.istore_n 3, 1) := by decide +kernel
theorem dX8_isSum_54 : decode cX8_isSum 54 = .ok (.iload_n 3, 1) := by decide +kernel
theorem dX8_isSum_55 : decode cX8_isSum 55 = .ok (.aload_n 0, 1) := by decide +kernel
theorem dX8_isSum_56 : decode cX8_isSum 56 = .ok (.getfield 207, 3) := by decide +kernel
theorem dX8_isSum_59 : decode cX8_isSum 59 = .ok (.if_icmp .ge 107, 3) := by decide +kernel
theorem dX8_isSum_62 : decode cX8_isSum 62 = .ok (.aload_n 0, 1) := by decide +kernel
theorem dX8_isSum_63 : decode cX8_isSum 63 = .ok (.getfield 217, 3) := by decide +kernel
theorem dX8_isSum_66 : decode cX8_isSum 66 = .ok (.ifCond .le 100, 3) := by decide +kernel
theorem dX8_isSum_69 : decode cX8_isSum 69 = .ok (.aload_n 0, 1) := by decide +kernel
theorem dX8_isSum_70 : decode cX8_isSum 70 = .ok (.getfield 210, 3) := by decide +kernel
theorem dX8_isSum_73 : decode cX8_isSum 73 = .ok (.aload_n 0, 1) := by decide +kernel
theorem dX8_isSum_74 : decode cX8_isSum 74 = .ok (.getfield 69, 3) := by decide +kernel
theorem dX8_isSum_77 : decode cX8_isSum 77 = .ok (.aload_n 0, 1) := by decide +kernel
theorem dX8_isSum_78 : decode cX8_isSum 78 = .ok (.getfield 48, 3) := by decide +kernel
theorem dX8_isSum_81 : decode cX8_isSum 81 = .ok (.iload_n 3, 1) := by decide +kernel
theorem dX8_isSum_82 : decode cX8_isSum 82 = .ok (.iaload, 1) := by decide +kernel
theorem dX8_isSum_83 : decode cX8_isSum 83 = .ok (.laload, 1) := by decide +kernel
theorem dX8_isSum_84 : decode cX8_isSum 84 = .ok (.lmul, 1) := by decide +kernel
theorem dX8_isSum_85 : decode cX8_isSum 85 = .ok (.lstore 4, 2) := by decide +kernel
theorem dX8_isSum_87 : decode cX8_isSum 87 = .ok (.iconst 0, 1) := by decide +kernel
theorem dX8_isSum_88 : decode cX8_isSum 88 = .ok (.istore 6, 2) := by decide +kernel
theorem dX8_isSum_90 : decode cX8_isSum 90 = .ok (.iload 6, 2) := by decide +kernel
theorem dX8_isSum_92 : decode cX8_isSum 92 = .ok (.aload_n 0, 1) := by decide +kernel
theorem dX8_isSum_93 : decode cX8_isSum 93 = .ok (.getfield 214, 3) := by decide +kernel
theorem dX8_isSum_96 : decode cX8_isSum 96 = .ok (.if_icmp .ge 47, 3) := by decide +kernel
theorem dX8_isSum_99 : decode cX8_isSum 99 = .ok (.lload 4, 2) := by decide +kernel
theorem dX8_isSum_101 : decode cX8_isSum 101 = .ok (.aload_n 0, 1) := by decide +kernel
theorem dX8_isSum_102 : decode cX8_isSum 102 = .ok (.getfield 51, 3) := by decide +kernel
theorem dX8_isSum_105 : decode cX8_isSum 105 = .ok (.iload 6, 2) := by decide +kernel
theorem dX8_isSum_107 : decode cX8_isSum 107 = .ok (.baload, 1) := by decide +kernel
theorem dX8_isSum_108 : decode cX8_isSum 108 = .ok (.ifCond .eq 25, 3) := by decide +kernel
theorem dX8_isSum_111 : decode cX8_isSum 111 = .ok (.aload_n 0, 1) := by decide +kernel
theorem dX8_isSum_112 : decode cX8_isSum 112 = .ok (.getfield 69, 3) := by decide +kernel
theorem dX8_isSum_115 : decode cX8_isSum 115 = .ok (.iload 6, 2) := by decide +kernel
theorem dX8_isSum_117 : decode cX8_isSum 117 = .ok (.laload, 1) := by decide +kernel
theorem dX8_isSum_118 : decode cX8_isSum 118 = .ok (.aload_n 0, 1) := by decide +kernel
theorem dX8_isSum_119 : decode cX8_isSum 119 = .ok (.getfield 44, 3) := by decide +kernel
theorem dX8_isSum_122 : decode cX8_isSum 122 = .ok (.iconst 5, 1) := by decide +kernel
theorem dX8_isSum_123 : decode cX8_isSum 123 = .ok (.iload_n 3, 1) := by decide +kernel
theorem dX8_isSum_124 : decode cX8_isSum 124 = .ok (.imul, 1) := by decide +kernel
theorem dX8_isSum_125 : decode cX8_isSum 125 = .ok (.iload 6, 2) := by decide +kernel
theorem dX8_isSum_127 : decode cX8_isSum 127 = .ok (.iadd, 1) := by decide +kernel
theorem dX8_isSum_128 : decode cX8_isSum 128 = .ok (.laload, 1) := by decide +kernel
theorem dX8_isSum_129 : decode cX8_isSum 129 = .ok (.lmul, 1) := by decide +kernel
theorem dX8_isSum_130 : decode cX8_isSum 130 = .ok (.goto 4, 3) := by decide +kernel
theorem dX8_isSum_133 : decode cX8_isSum 133 = .ok (.lconst 0, 1) := by decide +kernel
theorem dX8_isSum_134 : decode cX8_isSum 134 = .ok (.ladd, 1) := by decide +kernel
theorem dX8_isSum_135 : decode cX8_isSum 135 = .ok (.lstore 4, 2) := by decide +kernel
theorem dX8_isSum_137 : decode cX8_isSum 137 = .ok (.iinc 6 1, 3) := by decide +kernel
theorem dX8_isSum_140 : decode cX8_isSum 140 = .ok (.goto (-50), 3) := by decide +kernel
theorem dX8_isSum_143 : decode cX8_isSum 143 = .ok (.iload_n 2, 1) := by decide +kernel
theorem dX8_isSum_144 : decode cX8_isSum 144 = .ok (.ifCond .eq 14, 3) := by decide +kernel
theorem dX8_isSum_147 : decode cX8_isSum 147 = .ok (.lload 4, 2) := by decide +kernel
theorem dX8_isSum_149 : decode cX8_isSum 149 = .ok (.lconst 0, 1) := by decide +kernel
theorem dX8_isSum_150 : decode cX8_isSum 150 = .ok (.lcmp, 1) := by decide +kernel
theorem dX8_isSum_151 : decode cX8_isSum 151 = .ok (.ifCond .ne 7, 3) := by decide +kernel
theorem dX8_isSum_154 : decode cX8_isSum 154 = .ok (.iconst 1, 1) := by decide +kernel
theorem dX8_isSum_155 : decode cX8_isSum 155 = .ok (.goto 4, 3) := by decide +kernel
theorem dX8_isSum_158 : decode cX8_isSum 158 = .ok (.iconst 0, 1) := by decide +kernel
theorem dX8_isSum_159 : decode cX8_isSum 159 = .ok (.istore_n 2, 1) := by decide +kernel
theorem dX8_isSum_160 : decode cX8_isSum 160 = .ok (.iinc 3 1, 3) := by decide +kernel
theorem dX8_isSum_163 : decode cX8_isSum 163 = .ok (.goto (-109), 3) := by decide +kernel
theorem dX8_isSum_166 : decode cX8_isSum 166 = .ok (.iload_n 2, 1) := by decide +kernel
theorem dX8_isSum_167 : decode cX8_isSum 167 = .ok (.ireturn, 1) := by decide +kernel
theorem dX8_layRow_0 : decode cX8_layRow 0 = .ok (.aload_n 0, 1) := by decide +kernel
theorem dX8_layRow_1 : decode cX8_layRow 1 = .ok (.getfield 7, 3) := by decide +kernel
theorem dX8_layRow_4 : decode cX8_layRow 4 = .ok (.aload_n 0, 1) := by decide +kernel
theorem dX8_layRow_5 : decode cX8_layRow 5 = .ok (.getfield 60, 3) := by decide +kernel
theorem dX8_layRow_8 : decode cX8_layRow 8 = .ok (.iload_n 1, 1) := by decide +kernel
theorem dX8_layRow_9 : decode cX8_layRow 9 = .ok (.iaload, 1) := by decide +kernel
theorem dX8_layRow_10 : decode cX8_layRow 10 = .ok (.iaload, 1) := by decide +kernel
theorem dX8_layRow_11 : decode cX8_layRow 11 = .ok (.istore_n 3, 1) := by decide +kernel
theorem dX8_layRow_12 : decode cX8_layRow 12 = .ok (.aload_n 0, 1) := by decide +kernel
theorem dX8_layRow_13 : decode cX8_layRow 13 = .ok (.getfield 7, 3) := by decide +kernel
theorem dX8_layRow_16 : decode cX8_layRow 16 = .ok (.aload_n 0, 1) := by decide +kernel
theorem dX8_layRow_17 : decode cX8_layRow 17 = .ok (.getfield 63, 3) := by decide +kernel
theorem dX8_layRow_20 : decode cX8_layRow 20 = .ok (.iload_n 1, 1) := by decide +kernel
theorem dX8_layRow_21 : decode cX8_layRow 21 = .ok (.iaload, 1) := by decide +kernel
theorem dX8_layRow_22 : decode cX8_layRow 22 = .ok (.iaload, 1) := by decide +kernel
theorem dX8_layRow_23 : decode cX8_layRow 23 = .ok (.istore 4, 2) := by decide +kernel
theorem dX8_layRow_25 : decode cX8_layRow 25 = .ok (.iconst 0, 1) := by decide +kernel
theorem dX8_layRow_26 : decode cX8_layRow 26 = .ok (.istore 5, 2) := by decide +kernel
theorem dX8_layRow_28 : decode cX8_layRow 28 = .ok (.iload 5, 2) := by decide +kernel
theorem dX8_layRow_30 : decode cX8_layRow 30 = .ok (.iload_n 3, 1) := by decide +kernel
theorem dX8_layRow_31 : decode cX8_layRow 31 = .ok (.if_icmp .gt 103, 3) := by decide +kernel
theorem dX8_layRow_34 : decode cX8_layRow 34 = .ok (.aload_n 0, 1) := by decide +kernel
theorem dX8_layRow_35 : decode cX8_layRow 35 = .ok (.getfield 69, 3) := by decide +kernel
theorem dX8_layRow_38 : decode cX8_layRow 38 = .ok (.iload 5, 2) := by decide +kernel
theorem dX8_layRow_40 : decode cX8_layRow 40 = .ok (.iload 5, 2) := by decide +kernel
theorem dX8_layRow_42 : decode cX8_layRow 42 = .ok (.iload_n 3, 1) := by decide +kernel
theorem dX8_layRow_43 : decode cX8_layRow 43 = .ok (.if_icmp .ne 17, 3) := by decide +kernel
theorem dX8_layRow_46 : decode cX8_layRow 46 = .ok (.aload_n 0, 1) := by decide +kernel
theorem dX8_layRow_47 : decode cX8_layRow 47 = .ok (.getfield 72, 3) := by decide +kernel
theorem dX8_layRow_50 : decode cX8_layRow 50 = .ok (.iconst 5, 1) := by decide +kernel
theorem dX8_layRow_51 : decode cX8_layRow 51 = .ok (.iload_n 2, 1) := by decide +kernel
theorem dX8_layRow_52 : decode cX8_layRow 52 = .ok (.imul, 1) := by decide +kernel
theorem dX8_layRow_53 : decode cX8_layRow 53 = .ok (.iload 4, 2) := by decide +kernel
theorem dX8_layRow_55 : decode cX8_layRow 55 = .ok (.iadd, 1) := by decide +kernel
theorem dX8_layRow_56 : decode cX8_layRow 56 = .ok (.laload, 1) := by decide +kernel
theorem dX8_layRow_57 : decode cX8_layRow 57 = .ok (.goto 4, 3) := by decide +kernel
theorem dX8_layRow_60 : decode cX8_layRow 60 = .ok (.lconst 0, 1) := by decide +kernel
theorem dX8_layRow_61 : decode cX8_layRow 61 = .ok (.lastore, 1) := by decide +kernel
theorem dX8_layRow_62 : decode cX8_layRow 62 = .ok (.iconst 0, 1) := by decide +kernel
theorem dX8_layRow_63 : decode cX8_layRow 63 = .ok (.istore 6, 2) := by decide +kernel
theorem dX8_layRow_65 : decode cX8_layRow 65 = .ok (.iload 6, 2) := by decide +kernel
theorem dX8_layRow_67 : decode cX8_layRow 67 = .ok (.iload 4, 2) := by decide +kernel
theorem dX8_layRow_69 : decode cX8_layRow 69 = .ok (.if_icmp .ge 59, 3) := by decide +kernel
theorem dX8_layRow_72 : decode cX8_layRow 72 = .ok (.aload_n 0, 1) := by decide +kernel
theorem dX8_layRow_73 : decode cX8_layRow 73 = .ok (.getfield 69, 3) := by decide +kernel
theorem dX8_layRow_76 : decode cX8_layRow 76 = .ok (.iload 5, 2) := by decide +kernel
theorem dX8_layRow_78 : decode cX8_layRow 78 = .ok (.dup2, 1) := by decide +kernel
theorem dX8_layRow_79 : decode cX8_layRow 79 = .ok (.laload, 1) := by decide +kernel
theorem dX8_layRow_80 : decode cX8_layRow 80 = .ok (.aload_n 0, 1) := by decide +kernel
theorem dX8_layRow_81 : decode cX8_layRow 81 = .ok (.getfield 72, 3) := by decide +kernel
theorem dX8_layRow_84 : decode cX8_layRow 84 = .ok (.iconst 5, 1) := by decide +kernel
theorem dX8_layRow_85 : decode cX8_layRow 85 = .ok (.iload_n 2, 1) := by decide +kernel
theorem dX8_layRow_86 : decode cX8_layRow 86 = .ok (.imul, 1) := by decide +kernel
theorem dX8_layRow_87 : decode cX8_layRow 87 = .ok (.iload 6, 2) := by decide +kernel
theorem dX8_layRow_89 : decode cX8_layRow 89 = .ok (.iadd, 1) := by decide +kernel
theorem dX8_layRow_90 : decode cX8_layRow 90 = .ok (.laload, 1) := by decide +kernel
theorem dX8_layRow_91 : decode cX8_layRow 91 = .ok (.aload_n 0, 1) := by decide +kernel
theorem dX8_layRow_92 : decode cX8_layRow 92 = .ok (.getfield 66, 3) := by decide +kernel
theorem dX8_layRow_95 : decode cX8_layRow 95 = .ok (.bipush 20, 2) := by decide +kernel
theorem dX8_layRow_97 : decode cX8_layRow 97 = .ok (.iload_n 1, 1) := by decide +kernel
theorem dX8_layRow_98 : decode cX8_layRow 98 = .ok (.imul, 1) := by decide +kernel
theorem dX8_layRow_99 : decode cX8_layRow 99 = .ok (.iconst 5, 1) := by decide +kernel
theorem dX8_layRow_100 : decode cX8_layRow 100 = .ok (.iload 6, 2) := by decide +kernel
theorem dX8_layRow_102 : decode cX8_layRow 102 = .ok (.imul, 1) := by decide +kernel
theorem dX8_layRow_103 : decode cX8_layRow 103 = .ok (.iadd, 1) := by decide +kernel
theorem dX8_layRow_104 : decode cX8_layRow 104 = .ok (.iload 5, 2) := by decide +kernel
theorem dX8_layRow_106 : decode cX8_layRow 106 = .ok (.iload_n 3, 1) := by decide +kernel
theorem dX8_layRow_107 : decode cX8_layRow 107 = .ok (.if_icmp .ne 7, 3) := by decide +kernel
theorem dX8_layRow_110 : decode cX8_layRow 110 = .ok (.iconst 4, 1) := by decide +kernel
theorem dX8_layRow_111 : decode cX8_layRow 111 = .ok (.goto 5, 3) := by decide +kernel
theorem dX8_layRow_114 : decode cX8_layRow 114 = .ok (.iload 5, 2) := by decide +kernel
theorem dX8_layRow_116 : decode cX8_layRow 116 = .ok (.iadd, 1) := by decide +kernel
theorem dX8_layRow_117 : decode cX8_layRow 117 = .ok (.iaload, 1) := by decide +kernel
theorem dX8_layRow_118 : decode cX8_layRow 118 = .ok (.i2l, 1) := by decide +kernel
theorem dX8_layRow_119 : decode cX8_layRow 119 = .ok (.lmul, 1) := by decide +kernel
theorem dX8_layRow_120 : decode cX8_layRow 120 = .ok (.ladd, 1) := by decide +kernel
theorem dX8_layRow_121 : decode cX8_layRow 121 = .ok (.lastore, 1) := by decide +kernel
theorem dX8_layRow_122 : decode cX8_layRow 122 = .ok (.iinc 6 1, 3) := by decide +kernel
theorem dX8_layRow_125 : decode cX8_layRow 125 = .ok (.goto (-60), 3) := by decide +kernel
theorem dX8_layRow_128 : decode cX8_layRow 128 = .ok (.iinc 5 1, 3) := by decide +kernel
theorem dX8_layRow_131 : decode cX8_layRow 131 = .ok (.goto (-103), 3) := by decide +kernel
theorem dX8_layRow_134 : decode cX8_layRow 134 = .ok (.return_, 1) := by decide +kernel
theorem dX8_kept_0 : decode cX8_kept 0 = .ok (.aload_n 0, 1) := by decide +kernel
theorem dX8_kept_1 : decode cX8_kept 1 = .ok (.getfield 109, 3) := by decide +kernel
theorem dX8_kept_4 : decode cX8_kept 4 = .ok (.ifCond .ge 6, 3) := by decide +kernel
theorem dX8_kept_7 : decode cX8_kept 7 = .ok (.bipush (-3), 2) := by decide +kernel
theorem dX8_kept_9 : decode cX8_kept 9 = .ok (.ireturn, 1) := by decide +kernel
theorem dX8_kept_10 : decode cX8_kept 10 = .ok (.aload_n 0, 1) := by decide +kernel
theorem dX8_kept_11 : decode cX8_kept 11 = .ok (.aload_n 0, 1) := by decide +kernel
theorem dX8_kept_12 : decode cX8_kept 12 = .ok (.getfield 109, 3) := by decide +kernel
theorem dX8_kept_15 : decode cX8_kept 15 = .ok (.iconst 0, 1) := by decide +kernel
theorem dX8_kept_16 : decode cX8_kept 16 = .ok (.invokevirtual 236, 3) := by decide +kernel
theorem dX8_kept_19 : decode cX8_kept 19 = .ok (.iconst 0, 1) := by decide +kernel
theorem dX8_kept_20 : decode cX8_kept 20 = .ok (.istore_n 1, 1) := by decide +kernel
theorem dX8_kept_21 : decode cX8_kept 21 = .ok (.iload_n 1, 1) := by decide +kernel
theorem dX8_kept_22 : decode cX8_kept 22 = .ok (.aload_n 0, 1) := by decide +kernel
theorem dX8_kept_23 : decode cX8_kept 23 = .ok (.getfield 230, 3) := by decide +kernel
theorem dX8_kept_26 : decode cX8_kept 26 = .ok (.if_icmp .ge 85, 3) := by decide +kernel
theorem dX8_kept_29 : decode cX8_kept 29 = .ok (.aload_n 0, 1) := by decide +kernel
theorem dX8_kept_30 : decode cX8_kept 30 = .ok (.getfield 54, 3) := by decide +kernel
theorem dX8_kept_33 : decode cX8_kept 33 = .ok (.iconst 5, 1) := by decide +kernel
theorem dX8_kept_34 : decode cX8_kept 34 = .ok (.iload_n 1, 1) := by decide +kernel
theorem dX8_kept_35 : decode cX8_kept 35 = .ok (.imul, 1) := by decide +kernel
theorem dX8_kept_36 : decode cX8_kept 36 = .ok (.aload_n 0, 1) := by decide +kernel
theorem dX8_kept_37 : decode cX8_kept 37 = .ok (.getfield 7, 3) := by decide +kernel
theorem dX8_kept_40 : decode cX8_kept 40 = .ok (.aload_n 0, 1) := by decide +kernel
theorem dX8_kept_41 : decode cX8_kept 41 = .ok (.getfield 109, 3) := by decide +kernel
theorem dX8_kept_44 : decode cX8_kept 44 = .ok (.iaload, 1) := by decide +kernel
theorem dX8_kept_45 : decode cX8_kept 45 = .ok (.iadd, 1) := by decide +kernel
theorem dX8_kept_46 : decode cX8_kept 46 = .ok (.laload, 1) := by decide +kernel
theorem dX8_kept_47 : decode cX8_kept 47 = .ok (.lstore_n 2, 1) := by decide +kernel
theorem dX8_kept_48 : decode cX8_kept 48 = .ok (.iconst 0, 1) := by decide +kernel
theorem dX8_kept_49 : decode cX8_kept 49 = .ok (.istore 4, 2) := by decide +kernel
theorem dX8_kept_51 : decode cX8_kept 51 = .ok (.iload 4, 2) := by decide +kernel
theorem dX8_kept_53 : decode cX8_kept 53 = .ok (.aload_n 0, 1) := by decide +kernel
theorem dX8_kept_54 : decode cX8_kept 54 = .ok (.getfield 7, 3) := by decide +kernel
theorem dX8_kept_57 : decode cX8_kept 57 = .ok (.aload_n 0, 1) := by decide +kernel
theorem dX8_kept_58 : decode cX8_kept 58 = .ok (.getfield 109, 3) := by decide +kernel
theorem dX8_kept_61 : decode cX8_kept 61 = .ok (.iaload, 1) := by decide +kernel
theorem dX8_kept_62 : decode cX8_kept 62 = .ok (.if_icmp .ge 32, 3) := by decide +kernel
theorem dX8_kept_65 : decode cX8_kept 65 = .ok (.lload_n 2, 1) := by decide +kernel
theorem dX8_kept_66 : decode cX8_kept 66 = .ok (.aload_n 0, 1) := by decide +kernel
theorem dX8_kept_67 : decode cX8_kept 67 = .ok (.getfield 54, 3) := by decide +kernel
theorem dX8_kept_70 : decode cX8_kept 70 = .ok (.iconst 5, 1) := by decide +kernel
theorem dX8_kept_71 : decode cX8_kept 71 = .ok (.iload_n 1, 1) := by decide +kernel
theorem dX8_kept_72 : decode cX8_kept 72 = .ok (.imul, 1) := by decide +kernel
theorem dX8_kept_73 : decode cX8_kept 73 = .ok (.iload 4, 2) := by decide +kernel
theorem dX8_kept_75 : decode cX8_kept 75 = .ok (.iadd, 1) := by decide +kernel
theorem dX8_kept_76 : decode cX8_kept 76 = .ok (.laload, 1) := by decide +kernel
theorem dX8_kept_77 : decode cX8_kept 77 = .ok (.aload_n 0, 1) := by decide +kernel
theorem dX8_kept_78 : decode cX8_kept 78 = .ok (.getfield 57, 3) := by decide +kernel
theorem dX8_kept_81 : decode cX8_kept 81 = .ok (.iload 4, 2) := by decide +kernel
theorem dX8_kept_83 : decode cX8_kept 83 = .ok (.iaload, 1) := by decide +kernel
theorem dX8_kept_84 : decode cX8_kept 84 = .ok (.i2l, 1) := by decide +kernel
theorem dX8_kept_85 : decode cX8_kept 85 = .ok (.lmul, 1) := by decide +kernel
theorem dX8_kept_86 : decode cX8_kept 86 = .ok (.ladd, 1) := by decide +kernel
theorem dX8_kept_87 : decode cX8_kept 87 = .ok (.lstore_n 2, 1) := by decide +kernel
theorem dX8_kept_88 : decode cX8_kept 88 = .ok (.iinc 4 1, 3) := by decide +kernel
theorem dX8_kept_91 : decode cX8_kept 91 = .ok (.goto (-40), 3) := by decide +kernel
theorem dX8_kept_94 : decode cX8_kept 94 = .ok (.lload_n 2, 1) := by decide +kernel
theorem dX8_kept_95 : decode cX8_kept 95 = .ok (.lconst 0, 1) := by decide +kernel
theorem dX8_kept_96 : decode cX8_kept 96 = .ok (.lcmp, 1) := by decide +kernel
theorem dX8_kept_97 : decode cX8_kept 97 = .ok (.ifCond .eq 8, 3) := by decide +kernel
theorem dX8_kept_100 : decode cX8_kept 100 = .ok (.bipush (-20), 2) := by decide +kernel
theorem dX8_kept_102 : decode cX8_kept 102 = .ok (.iload_n 1, 1) := by decide +kernel
theorem dX8_kept_103 : decode cX8_kept 103 = .ok (.isub, 1) := by decide +kernel
theorem dX8_kept_104 : decode cX8_kept 104 = .ok (.ireturn, 1) := by decide +kernel
theorem dX8_kept_105 : decode cX8_kept 105 = .ok (.iinc 1 1, 3) := by decide +kernel
theorem dX8_kept_108 : decode cX8_kept 108 = .ok (.goto (-87), 3) := by decide +kernel
theorem dX8_kept_111 : decode cX8_kept 111 = .ok (.iconst 0, 1) := by decide +kernel
theorem dX8_kept_112 : decode cX8_kept 112 = .ok (.istore_n 1, 1) := by decide +kernel
theorem dX8_kept_113 : decode cX8_kept 113 = .ok (.iload_n 1, 1) := by decide +kernel
theorem dX8_kept_114 : decode cX8_kept 114 = .ok (.aload_n 0, 1) := by decide +kernel
theorem dX8_kept_115 : decode cX8_kept 115 = .ok (.getfield 241, 3) := by decide +kernel
theorem dX8_kept_118 : decode cX8_kept 118 = .ok (.if_icmp .ge 93, 3) := by decide +kernel
theorem dX8_kept_121 : decode cX8_kept 121 = .ok (.aload_n 0, 1) := by decide +kernel
theorem dX8_kept_122 : decode cX8_kept 122 = .ok (.aload_n 0, 1) := by decide +kernel
theorem dX8_kept_123 : decode cX8_kept 123 = .ok (.getfield 63, 3) := by decide +kernel
theorem dX8_kept_126 : decode cX8_kept 126 = .ok (.iload_n 1, 1) := by decide +kernel
theorem dX8_kept_127 : decode cX8_kept 127 = .ok (.iaload, 1) := by decide +kernel
theorem dX8_kept_128 : decode cX8_kept 128 = .ok (.iconst 0, 1) := by decide +kernel
theorem dX8_kept_129 : decode cX8_kept 129 = .ok (.invokevirtual 236, 3) := by decide +kernel
theorem dX8_kept_132 : decode cX8_kept 132 = .ok (.aload_n 0, 1) := by decide +kernel
theorem dX8_kept_133 : decode cX8_kept 133 = .ok (.getfield 230, 3) := by decide +kernel
theorem dX8_kept_136 : decode cX8_kept 136 = .ok (.istore_n 2, 1) := by decide +kernel
theorem dX8_kept_137 : decode cX8_kept 137 = .ok (.iconst 0, 1) := by decide +kernel
theorem dX8_kept_138 : decode cX8_kept 138 = .ok (.istore_n 3, 1) := by decide +kernel
theorem dX8_kept_139 : decode cX8_kept 139 = .ok (.iload_n 3, 1) := by decide +kernel
theorem dX8_kept_140 : decode cX8_kept 140 = .ok (.bipush 25, 2) := by decide +kernel
theorem dX8_kept_142 : decode cX8_kept 142 = .ok (.if_icmp .ge 21, 3) := by decide +kernel
theorem dX8_kept_145 : decode cX8_kept 145 = .ok (.aload_n 0, 1) := by decide +kernel
theorem dX8_kept_146 : decode cX8_kept 146 = .ok (.getfield 72, 3) := by decide +kernel
theorem dX8_kept_149 : decode cX8_kept 149 = .ok (.iload_n 3, 1) := by decide +kernel
theorem dX8_kept_150 : decode cX8_kept 150 = .ok (.aload_n 0, 1) := by decide +kernel
theorem dX8_kept_151 : decode cX8_kept 151 = .ok (.getfield 54, 3) := by decide +kernel
theorem dX8_kept_154 : decode cX8_kept 154 = .ok (.iload_n 3, 1) := by decide +kernel
theorem dX8_kept_155 : decode cX8_kept 155 = .ok (.laload, 1) := by decide +kernel
theorem dX8_kept_156 : decode cX8_kept 156 = .ok (.lastore, 1) := by decide +kernel
theorem dX8_kept_157 : decode cX8_kept 157 = .ok (.iinc 3 1, 3) := by decide +kernel
theorem dX8_kept_160 : decode cX8_kept 160 = .ok (.goto (-21), 3) := by decide +kernel
theorem dX8_kept_163 : decode cX8_kept 163 = .ok (.iconst 0, 1) := by decide +kernel
theorem dX8_kept_164 : decode cX8_kept 164 = .ok (.istore_n 3, 1) := by decide +kernel
theorem dX8_kept_165 : decode cX8_kept 165 = .ok (.iload_n 3, 1) := by decide +kernel
theorem dX8_kept_166 : decode cX8_kept 166 = .ok (.iload_n 2, 1) := by decide +kernel
theorem dX8_kept_167 : decode cX8_kept 167 = .ok (.if_icmp .ge 38, 3) := by decide +kernel
theorem dX8_kept_170 : decode cX8_kept 170 = .ok (.aload_n 0, 1) := by decide +kernel
theorem dX8_kept_171 : decode cX8_kept 171 = .ok (.iload_n 1, 1) := by decide +kernel
theorem dX8_kept_172 : decode cX8_kept 172 = .ok (.iload_n 3, 1) := by decide +kernel
theorem dX8_kept_173 : decode cX8_kept 173 = .ok (.invokevirtual 247, 3) := by decide +kernel
theorem dX8_kept_176 : decode cX8_kept 176 = .ok (.aload_n 0, 1) := by decide +kernel
theorem dX8_kept_177 : decode cX8_kept 177 = .ok (.aload_n 0, 1) := by decide +kernel
theorem dX8_kept_178 : decode cX8_kept 178 = .ok (.getfield 60, 3) := by decide +kernel
theorem dX8_kept_181 : decode cX8_kept 181 = .ok (.iload_n 1, 1) := by decide +kernel
theorem dX8_kept_182 : decode cX8_kept 182 = .ok (.iaload, 1) := by decide +kernel
theorem dX8_kept_183 : decode cX8_kept 183 = .ok (.invokevirtual 250, 3) := by decide +kernel
theorem dX8_kept_186 : decode cX8_kept 186 = .ok (.ifCond .ne 13, 3) := by decide +kernel
theorem dX8_kept_189 : decode cX8_kept 189 = .ok (.bipush (-120), 2) := by decide +kernel
theorem dX8_kept_191 : decode cX8_kept 191 = .ok (.bipush 100, 2) := by decide +kernel
theorem dX8_kept_193 : decode cX8_kept 193 = .ok (.iload_n 1, 1) := by decide +kernel
theorem dX8_kept_194 : decode cX8_kept 194 = .ok (.imul, 1) := by decide +kernel
theorem dX8_kept_195 : decode cX8_kept 195 = .ok (.isub, 1) := by decide +kernel
theorem dX8_kept_196 : decode cX8_kept 196 = .ok (.iload_n 3, 1) := by decide +kernel
theorem dX8_kept_197 : decode cX8_kept 197 = .ok (.isub, 1) := by decide +kernel
theorem dX8_kept_198 : decode cX8_kept 198 = .ok (.ireturn, 1) := by decide +kernel
theorem dX8_kept_199 : decode cX8_kept 199 = .ok (.iinc 3 1, 3) := by decide +kernel
theorem dX8_kept_202 : decode cX8_kept 202 = .ok (.goto (-37), 3) := by decide +kernel
theorem dX8_kept_205 : decode cX8_kept 205 = .ok (.iinc 1 1, 3) := by decide +kernel
theorem dX8_kept_208 : decode cX8_kept 208 = .ok (.goto (-95), 3) := by decide +kernel
theorem dX8_kept_211 : decode cX8_kept 211 = .ok (.iconst 1, 1) := by decide +kernel
theorem dX8_kept_212 : decode cX8_kept 212 = .ok (.ireturn, 1) := by decide +kernel
theorem dX8_begin_0 : decode cX8_begin 0 = .ok (.aload_n 0, 1) := by decide +kernel
theorem dX8_begin_1 : decode cX8_begin 1 = .ok (.getfield 75, 3) := by decide +kernel
theorem dX8_begin_4 : decode cX8_begin 4 = .ok (.iconst 0, 1) := by decide +kernel
theorem dX8_begin_5 : decode cX8_begin 5 = .ok (.aload_n 0, 1) := by decide +kernel
theorem dX8_begin_6 : decode cX8_begin 6 = .ok (.getfield 109, 3) := by decide +kernel
theorem dX8_begin_9 : decode cX8_begin 9 = .ok (.iastore, 1) := by decide +kernel
theorem dX8_begin_10 : decode cX8_begin 10 = .ok (.iconst 0, 1) := by decide +kernel
theorem dX8_begin_11 : decode cX8_begin 11 = .ok (.istore_n 1, 1) := by decide +kernel
theorem dX8_begin_12 : decode cX8_begin 12 = .ok (.iload_n 1, 1) := by decide +kernel
theorem dX8_begin_13 : decode cX8_begin 13 = .ok (.iconst 4, 1) := by decide +kernel
theorem dX8_begin_14 : decode cX8_begin 14 = .ok (.if_icmp .ge 21, 3) := by decide +kernel
theorem dX8_begin_17 : decode cX8_begin 17 = .ok (.aload_n 0, 1) := by decide +kernel
theorem dX8_begin_18 : decode cX8_begin 18 = .ok (.getfield 78, 3) := by decide +kernel
theorem dX8_begin_21 : decode cX8_begin 21 = .ok (.iload_n 1, 1) := by decide +kernel
theorem dX8_begin_22 : decode cX8_begin 22 = .ok (.aload_n 0, 1) := by decide +kernel
theorem dX8_begin_23 : decode cX8_begin 23 = .ok (.getfield 57, 3) := by decide +kernel
theorem dX8_begin_26 : decode cX8_begin 26 = .ok (.iload_n 1, 1) := by decide +kernel
theorem dX8_begin_27 : decode cX8_begin 27 = .ok (.iaload, 1) := by decide +kernel
theorem dX8_begin_28 : decode cX8_begin 28 = .ok (.iastore, 1) := by decide +kernel
theorem dX8_begin_29 : decode cX8_begin 29 = .ok (.iinc 1 1, 3) := by decide +kernel
theorem dX8_begin_32 : decode cX8_begin 32 = .ok (.goto (-20), 3) := by decide +kernel
theorem dX8_begin_35 : decode cX8_begin 35 = .ok (.return_, 1) := by decide +kernel
theorem dX8_leads_0 : decode cX8_leads 0 = .ok (.iconst 1, 1) := by decide +kernel
theorem dX8_leads_1 : decode cX8_leads 1 = .ok (.istore_n 3, 1) := by decide +kernel
theorem dX8_leads_2 : decode cX8_leads 2 = .ok (.aload_n 0, 1) := by decide +kernel
theorem dX8_leads_3 : decode cX8_leads 3 = .ok (.getfield 75, 3) := by decide +kernel
theorem dX8_leads_6 : decode cX8_leads 6 = .ok (.iload_n 1, 1) := by decide +kernel
theorem dX8_leads_7 : decode cX8_leads 7 = .ok (.iconst 1, 1) := by decide +kernel
theorem dX8_leads_8 : decode cX8_leads 8 = .ok (.iadd, 1) := by decide +kernel
theorem dX8_leads_9 : decode cX8_leads 9 = .ok (.aload_n 0, 1) := by decide +kernel
theorem dX8_leads_10 : decode cX8_leads 10 = .ok (.getfield 63, 3) := by decide +kernel
theorem dX8_leads_13 : decode cX8_leads 13 = .ok (.iload_n 2, 1) := by decide +kernel
theorem dX8_leads_14 : decode cX8_leads 14 = .ok (.iaload, 1) := by decide +kernel
theorem dX8_leads_15 : decode cX8_leads 15 = .ok (.iastore, 1) := by decide +kernel
theorem dX8_leads_16 : decode cX8_leads 16 = .ok (.iconst 0, 1) := by decide +kernel
theorem dX8_leads_17 : decode cX8_leads 17 = .ok (.istore 4, 2) := by decide +kernel
theorem dX8_leads_19 : decode cX8_leads 19 = .ok (.iload 4, 2) := by decide +kernel
theorem dX8_leads_21 : decode cX8_leads 21 = .ok (.aload_n 0, 1) := by decide +kernel
theorem dX8_leads_22 : decode cX8_leads 22 = .ok (.getfield 7, 3) := by decide +kernel
theorem dX8_leads_25 : decode cX8_leads 25 = .ok (.aload_n 0, 1) := by decide +kernel
theorem dX8_leads_26 : decode cX8_leads 26 = .ok (.getfield 63, 3) := by decide +kernel
theorem dX8_leads_29 : decode cX8_leads 29 = .ok (.iload_n 2, 1) := by decide +kernel
theorem dX8_leads_30 : decode cX8_leads 30 = .ok (.iaload, 1) := by decide +kernel
theorem dX8_leads_31 : decode cX8_leads 31 = .ok (.iaload, 1) := by decide +kernel
theorem dX8_leads_32 : decode cX8_leads 32 = .ok (.if_icmp .ge 123, 3) := by decide +kernel
theorem dX8_leads_35 : decode cX8_leads 35 = .ok (.aload_n 0, 1) := by decide +kernel
theorem dX8_leads_36 : decode cX8_leads 36 = .ok (.getfield 66, 3) := by decide +kernel
theorem dX8_leads_39 : decode cX8_leads 39 = .ok (.bipush 20, 2) := by decide +kernel
theorem dX8_leads_41 : decode cX8_leads 41 = .ok (.iload_n 2, 1) := by decide +kernel
theorem dX8_leads_42 : decode cX8_leads 42 = .ok (.imul, 1) := by decide +kernel
theorem dX8_leads_43 : decode cX8_leads 43 = .ok (.iconst 5, 1) := by decide +kernel
theorem dX8_leads_44 : decode cX8_leads 44 = .ok (.iload 4, 2) := by decide +kernel
theorem dX8_leads_46 : decode cX8_leads 46 = .ok (.imul, 1) := by decide +kernel
theorem dX8_leads_47 : decode cX8_leads 47 = .ok (.iadd, 1) := by decide +kernel
theorem dX8_leads_48 : decode cX8_leads 48 = .ok (.iconst 4, 1) := by decide +kernel
theorem dX8_leads_49 : decode cX8_leads 49 = .ok (.iadd, 1) := by decide +kernel
theorem dX8_leads_50 : decode cX8_leads 50 = .ok (.iaload, 1) := by decide +kernel
theorem dX8_leads_51 : decode cX8_leads 51 = .ok (.istore 5, 2) := by decide +kernel
theorem dX8_leads_53 : decode cX8_leads 53 = .ok (.iconst 0, 1) := by decide +kernel
theorem dX8_leads_54 : decode cX8_leads 54 = .ok (.istore 6, 2) := by decide +kernel
theorem dX8_leads_56 : decode cX8_leads 56 = .ok (.iload 6, 2) := by decide +kernel
theorem dX8_leads_58 : decode cX8_leads 58 = .ok (.aload_n 0, 1) := by decide +kernel
theorem dX8_leads_59 : decode cX8_leads 59 = .ok (.getfield 7, 3) := by decide +kernel
theorem dX8_leads_62 : decode cX8_leads 62 = .ok (.aload_n 0, 1) := by decide +kernel
theorem dX8_leads_63 : decode cX8_leads 63 = .ok (.getfield 60, 3) := by decide +kernel
theorem dX8_leads_66 : decode cX8_leads 66 = .ok (.iload_n 2, 1) := by decide +kernel
theorem dX8_leads_67 : decode cX8_leads 67 = .ok (.iaload, 1) := by decide +kernel
theorem dX8_leads_68 : decode cX8_leads 68 = .ok (.iaload, 1) := by decide +kernel
theorem dX8_leads_69 : decode cX8_leads 69 = .ok (.if_icmp .ge 43, 3) := by decide +kernel
theorem dX8_leads_72 : decode cX8_leads 72 = .ok (.iload 5, 2) := by decide +kernel
theorem dX8_leads_74 : decode cX8_leads 74 = .ok (.aload_n 0, 1) := by decide +kernel
theorem dX8_leads_75 : decode cX8_leads 75 = .ok (.getfield 66, 3) := by decide +kernel
theorem dX8_leads_78 : decode cX8_leads 78 = .ok (.bipush 20, 2) := by decide +kernel
theorem dX8_leads_80 : decode cX8_leads 80 = .ok (.iload_n 2, 1) := by decide +kernel
theorem dX8_leads_81 : decode cX8_leads 81 = .ok (.imul, 1) := by decide +kernel
theorem dX8_leads_82 : decode cX8_leads 82 = .ok (.iconst 5, 1) := by decide +kernel
theorem dX8_leads_83 : decode cX8_leads 83 = .ok (.iload 4, 2) := by decide +kernel
theorem dX8_leads_85 : decode cX8_leads 85 = .ok (.imul, 1) := by decide +kernel
theorem dX8_leads_86 : decode cX8_leads 86 = .ok (.iadd, 1) := by decide +kernel
theorem dX8_leads_87 : decode cX8_leads 87 = .ok (.iload 6, 2) := by decide +kernel
theorem dX8_leads_89 : decode cX8_leads 89 = .ok (.iadd, 1) := by decide +kernel
theorem dX8_leads_90 : decode cX8_leads 90 = .ok (.iaload, 1) := by decide +kernel
theorem dX8_leads_91 : decode cX8_leads 91 = .ok (.aload_n 0, 1) := by decide +kernel
theorem dX8_leads_92 : decode cX8_leads 92 = .ok (.getfield 78, 3) := by decide +kernel
theorem dX8_leads_95 : decode cX8_leads 95 = .ok (.iconst 4, 1) := by decide +kernel
theorem dX8_leads_96 : decode cX8_leads 96 = .ok (.iload_n 1, 1) := by decide +kernel
theorem dX8_leads_97 : decode cX8_leads 97 = .ok (.imul, 1) := by decide +kernel
theorem dX8_leads_98 : decode cX8_leads 98 = .ok (.iload 6, 2) := by decide +kernel
theorem dX8_leads_100 : decode cX8_leads 100 = .ok (.iadd, 1) := by decide +kernel
theorem dX8_leads_101 : decode cX8_leads 101 = .ok (.iaload, 1) := by decide +kernel
theorem dX8_leads_102 : decode cX8_leads 102 = .ok (.imul, 1) := by decide +kernel
theorem dX8_leads_103 : decode cX8_leads 103 = .ok (.iadd, 1) := by decide +kernel
theorem dX8_leads_104 : decode cX8_leads 104 = .ok (.istore 5, 2) := by decide +kernel
theorem dX8_leads_106 : decode cX8_leads 106 = .ok (.iinc 6 1, 3) := by decide +kernel
theorem dX8_leads_109 : decode cX8_leads 109 = .ok (.goto (-53), 3) := by decide +kernel
theorem dX8_leads_112 : decode cX8_leads 112 = .ok (.aload_n 0, 1) := by decide +kernel
theorem dX8_leads_113 : decode cX8_leads 113 = .ok (.getfield 78, 3) := by decide +kernel
theorem dX8_leads_116 : decode cX8_leads 116 = .ok (.iconst 4, 1) := by decide +kernel
theorem dX8_leads_117 : decode cX8_leads 117 = .ok (.iload_n 1, 1) := by decide +kernel
theorem dX8_leads_118 : decode cX8_leads 118 = .ok (.imul, 1) := by decide +kernel
theorem dX8_leads_119 : decode cX8_leads 119 = .ok (.iconst 4, 1) := by decide +kernel
theorem dX8_leads_120 : decode cX8_leads 120 = .ok (.iadd, 1) := by decide +kernel
theorem dX8_leads_121 : decode cX8_leads 121 = .ok (.iload 4, 2) := by decide +kernel
theorem dX8_leads_123 : decode cX8_leads 123 = .ok (.iadd, 1) := by decide +kernel
theorem dX8_leads_124 : decode cX8_leads 124 = .ok (.iload 5, 2) := by decide +kernel
theorem dX8_leads_126 : decode cX8_leads 126 = .ok (.iastore, 1) := by decide +kernel
theorem dX8_leads_127 : decode cX8_leads 127 = .ok (.iload_n 3, 1) := by decide +kernel
theorem dX8_leads_128 : decode cX8_leads 128 = .ok (.ifCond .eq 19, 3) := by decide +kernel
theorem dX8_leads_131 : decode cX8_leads 131 = .ok (.iload 5, 2) := by decide +kernel
theorem dX8_leads_133 : decode cX8_leads 133 = .ok (.bipush (-30), 2) := by decide +kernel
theorem dX8_leads_135 : decode cX8_leads 135 = .ok (.bipush 30, 2) := by decide +kernel
theorem dX8_leads_137 : decode cX8_leads 137 = .ok (.invokestatic 115, 3) := by decide +kernel
theorem dX8_leads_140 : decode cX8_leads 140 = .ok (.ifCond .eq 7, 3) := by decide +kernel
theorem dX8_leads_143 : decode cX8_leads 143 = .ok (.iconst 1, 1) := by decide +kernel
theorem dX8_leads_144 : decode cX8_leads 144 = .ok (.goto 4, 3) := by decide +kernel
theorem dX8_leads_147 : decode cX8_leads 147 = .ok (.iconst 0, 1) := by decide +kernel
theorem dX8_leads_148 : decode cX8_leads 148 = .ok (.istore_n 3, 1) := by decide +kernel
theorem dX8_leads_149 : decode cX8_leads 149 = .ok (.iinc 4 1, 3) := by decide +kernel
theorem dX8_leads_152 : decode cX8_leads 152 = .ok (.goto (-133), 3) := by decide +kernel
theorem dX8_leads_155 : decode cX8_leads 155 = .ok (.iload_n 3, 1) := by decide +kernel
theorem dX8_leads_156 : decode cX8_leads 156 = .ok (.ireturn, 1) := by decide +kernel
theorem dX8_noteTold_0 : decode cX8_noteTold 0 = .ok (.iconst 0, 1) := by decide +kernel
theorem dX8_noteTold_1 : decode cX8_noteTold 1 = .ok (.istore_n 1, 1) := by decide +kernel
theorem dX8_noteTold_2 : decode cX8_noteTold 2 = .ok (.iload_n 1, 1) := by decide +kernel
theorem dX8_noteTold_3 : decode cX8_noteTold 3 = .ok (.aload_n 0, 1) := by decide +kernel
theorem dX8_noteTold_4 : decode cX8_noteTold 4 = .ok (.getfield 105, 3) := by decide +kernel
theorem dX8_noteTold_7 : decode cX8_noteTold 7 = .ok (.if_icmp .ge 202, 3) := by decide +kernel
theorem dX8_noteTold_10 : decode cX8_noteTold 10 = .ok (.aload_n 0, 1) := by decide +kernel
theorem dX8_noteTold_11 : decode cX8_noteTold 11 = .ok (.iload_n 1, 1) := by decide +kernel
theorem dX8_noteTold_12 : decode cX8_noteTold 12 = .ok (.iconst 0, 1) := by decide +kernel
theorem dX8_noteTold_13 : decode cX8_noteTold 13 = .ok (.iconst 1, 1) := by decide +kernel
theorem dX8_noteTold_14 : decode cX8_noteTold 14 = .ok (.invokevirtual 187, 3) := by decide +kernel
theorem dX8_noteTold_17 : decode cX8_noteTold 17 = .ok (.aload_n 0, 1) := by decide +kernel
theorem dX8_noteTold_18 : decode cX8_noteTold 18 = .ok (.getfield 84, 3) := by decide +kernel
theorem dX8_noteTold_21 : decode cX8_noteTold 21 = .ok (.iload_n 1, 1) := by decide +kernel
theorem dX8_noteTold_22 : decode cX8_noteTold 22 = .ok (.aload_n 0, 1) := by decide +kernel
theorem dX8_noteTold_23 : decode cX8_noteTold 23 = .ok (.getfield 181, 3) := by decide +kernel
theorem dX8_noteTold_26 : decode cX8_noteTold 26 = .ok (.iastore, 1) := by decide +kernel
theorem dX8_noteTold_27 : decode cX8_noteTold 27 = .ok (.iconst 0, 1) := by decide +kernel
theorem dX8_noteTold_28 : decode cX8_noteTold 28 = .ok (.istore_n 2, 1) := by decide +kernel
theorem dX8_noteTold_29 : decode cX8_noteTold 29 = .ok (.iload_n 2, 1) := by decide +kernel
theorem dX8_noteTold_30 : decode cX8_noteTold 30 = .ok (.aload_n 0, 1) := by decide +kernel
theorem dX8_noteTold_31 : decode cX8_noteTold 31 = .ok (.getfield 181, 3) := by decide +kernel
theorem dX8_noteTold_34 : decode cX8_noteTold 34 = .ok (.if_icmp .ge 169, 3) := by decide +kernel
theorem dX8_noteTold_37 : decode cX8_noteTold 37 = .ok (.aload_n 0, 1) := by decide +kernel
theorem dX8_noteTold_38 : decode cX8_noteTold 38 = .ok (.getfield 32, 3) := by decide +kernel
theorem dX8_noteTold_41 : decode cX8_noteTold 41 = .ok (.iload_n 2, 1) := by decide +kernel
theorem dX8_noteTold_42 : decode cX8_noteTold 42 = .ok (.iaload, 1) := by decide +kernel
theorem dX8_noteTold_43 : decode cX8_noteTold 43 = .ok (.istore_n 3, 1) := by decide +kernel
theorem dX8_noteTold_44 : decode cX8_noteTold 44 = .ok (.bipush 100, 2) := by decide +kernel
theorem dX8_noteTold_46 : decode cX8_noteTold 46 = .ok (.iload_n 1, 1) := by decide +kernel
theorem dX8_noteTold_47 : decode cX8_noteTold 47 = .ok (.imul, 1) := by decide +kernel
theorem dX8_noteTold_48 : decode cX8_noteTold 48 = .ok (.iload_n 2, 1) := by decide +kernel
theorem dX8_noteTold_49 : decode cX8_noteTold 49 = .ok (.iadd, 1) := by decide +kernel
theorem dX8_noteTold_50 : decode cX8_noteTold 50 = .ok (.istore 4, 2) := by decide +kernel
theorem dX8_noteTold_52 : decode cX8_noteTold 52 = .ok (.aload_n 0, 1) := by decide +kernel
theorem dX8_noteTold_53 : decode cX8_noteTold 53 = .ok (.getfield 87, 3) := by decide +kernel
theorem dX8_noteTold_56 : decode cX8_noteTold 56 = .ok (.iload 4, 2) := by decide +kernel
theorem dX8_noteTold_58 : decode cX8_noteTold 58 = .ok (.iload_n 3, 1) := by decide +kernel
theorem dX8_noteTold_59 : decode cX8_noteTold 59 = .ok (.iastore, 1) := by decide +kernel
theorem dX8_noteTold_60 : decode cX8_noteTold 60 = .ok (.iload_n 3, 1) := by decide +kernel
theorem dX8_noteTold_61 : decode cX8_noteTold 61 = .ok (.bipush 100, 2) := by decide +kernel
theorem dX8_noteTold_63 : decode cX8_noteTold 63 = .ok (.idiv, 1) := by decide +kernel
theorem dX8_noteTold_64 : decode cX8_noteTold 64 = .ok (.iconst 4, 1) := by decide +kernel
theorem dX8_noteTold_65 : decode cX8_noteTold 65 = .ok (.if_icmp .gt 132, 3) := by decide +kernel
theorem dX8_noteTold_68 : decode cX8_noteTold 68 = .ok (.iload_n 3, 1) := by decide +kernel
theorem dX8_noteTold_69 : decode cX8_noteTold 69 = .ok (.bipush 100, 2) := by decide +kernel
theorem dX8_noteTold_71 : decode cX8_noteTold 71 = .ok (.idiv, 1) := by decide +kernel
theorem dX8_noteTold_72 : decode cX8_noteTold 72 = .ok (.istore 5, 2) := by decide +kernel
theorem dX8_noteTold_74 : decode cX8_noteTold 74 = .ok (.iload_n 3, 1) := by decide +kernel
theorem dX8_noteTold_75 : decode cX8_noteTold 75 = .ok (.bipush 10, 2) := by decide +kernel
theorem dX8_noteTold_77 : decode cX8_noteTold 77 = .ok (.idiv, 1) := by decide +kernel
theorem dX8_noteTold_78 : decode cX8_noteTold 78 = .ok (.bipush 10, 2) := by decide +kernel
theorem dX8_noteTold_80 : decode cX8_noteTold 80 = .ok (.irem, 1) := by decide +kernel
theorem dX8_noteTold_81 : decode cX8_noteTold 81 = .ok (.istore 6, 2) := by decide +kernel
theorem dX8_noteTold_83 : decode cX8_noteTold 83 = .ok (.aload_n 0, 1) := by decide +kernel
theorem dX8_noteTold_84 : decode cX8_noteTold 84 = .ok (.getfield 90, 3) := by decide +kernel
theorem dX8_noteTold_87 : decode cX8_noteTold 87 = .ok (.iload 4, 2) := by decide +kernel
theorem dX8_noteTold_89 : decode cX8_noteTold 89 = .ok (.iload 5, 2) := by decide +kernel
theorem dX8_noteTold_91 : decode cX8_noteTold 91 = .ok (.iconst 1, 1) := by decide +kernel
theorem dX8_noteTold_92 : decode cX8_noteTold 92 = .ok (.if_icmp .ne 17, 3) := by decide +kernel
theorem dX8_noteTold_95 : decode cX8_noteTold 95 = .ok (.aload_n 0, 1) := by decide +kernel
theorem dX8_noteTold_96 : decode cX8_noteTold 96 = .ok (.iload_n 1, 1) := by decide +kernel
theorem dX8_noteTold_97 : decode cX8_noteTold 97 = .ok (.iconst 0, 1) := by decide +kernel
theorem dX8_noteTold_98 : decode cX8_noteTold 98 = .ok (.iload 5, 2) := by decide +kernel
theorem dX8_noteTold_100 : decode cX8_noteTold 100 = .ok (.iload 6, 2) := by decide +kernel
theorem dX8_noteTold_102 : decode cX8_noteTold 102 = .ok (.iconst 2, 1) := by decide +kernel
theorem dX8_noteTold_103 : decode cX8_noteTold 103 = .ok (.invokevirtual 253, 3) := by decide +kernel
theorem dX8_noteTold_106 : decode cX8_noteTold 106 = .ok (.goto 14, 3) := by decide +kernel
theorem dX8_noteTold_109 : decode cX8_noteTold 109 = .ok (.aload_n 0, 1) := by decide +kernel
theorem dX8_noteTold_110 : decode cX8_noteTold 110 = .ok (.iload_n 1, 1) := by decide +kernel
theorem dX8_noteTold_111 : decode cX8_noteTold 111 = .ok (.iconst 0, 1) := by decide +kernel
theorem dX8_noteTold_112 : decode cX8_noteTold 112 = .ok (.iload 5, 2) := by decide +kernel
theorem dX8_noteTold_114 : decode cX8_noteTold 114 = .ok (.iload 6, 2) := by decide +kernel
theorem dX8_noteTold_116 : decode cX8_noteTold 116 = .ok (.iconst 0, 1) := by decide +kernel
theorem dX8_noteTold_117 : decode cX8_noteTold 117 = .ok (.invokevirtual 253, 3) := by decide +kernel
theorem dX8_noteTold_120 : decode cX8_noteTold 120 = .ok (.iastore, 1) := by decide +kernel
theorem dX8_noteTold_121 : decode cX8_noteTold 121 = .ok (.aload_n 0, 1) := by decide +kernel
theorem dX8_noteTold_122 : decode cX8_noteTold 122 = .ok (.getfield 93, 3) := by decide +kernel
theorem dX8_noteTold_125 : decode cX8_noteTold 125 = .ok (.iload 4, 2) := by decide +kernel
theorem dX8_noteTold_127 : decode cX8_noteTold 127 = .ok (.iload 5, 2) := by decide +kernel
theorem dX8_noteTold_129 : decode cX8_noteTold 129 = .ok (.iconst 1, 1) := by decide +kernel
theorem dX8_noteTold_130 : decode cX8_noteTold 130 = .ok (.if_icmp .ne 17, 3) := by decide +kernel
theorem dX8_noteTold_133 : decode cX8_noteTold 133 = .ok (.aload_n 0, 1) := by decide +kernel
theorem dX8_noteTold_134 : decode cX8_noteTold 134 = .ok (.iload_n 1, 1) := by decide +kernel
theorem dX8_noteTold_135 : decode cX8_noteTold 135 = .ok (.iconst 0, 1) := by decide +kernel
theorem dX8_noteTold_136 : decode cX8_noteTold 136 = .ok (.iload 5, 2) := by decide +kernel
theorem dX8_noteTold_138 : decode cX8_noteTold 138 = .ok (.iload 6, 2) := by decide +kernel
theorem dX8_noteTold_140 : decode cX8_noteTold 140 = .ok (.iconst 3, 1) := by decide +kernel
theorem dX8_noteTold_141 : decode cX8_noteTold 141 = .ok (.invokevirtual 253, 3) := by decide +kernel
theorem dX8_noteTold_144 : decode cX8_noteTold 144 = .ok (.goto 24, 3) := by decide +kernel
theorem dX8_noteTold_147 : decode cX8_noteTold 147 = .ok (.iload 5, 2) := by decide +kernel
theorem dX8_noteTold_149 : decode cX8_noteTold 149 = .ok (.iconst 4, 1) := by decide +kernel
theorem dX8_noteTold_150 : decode cX8_noteTold 150 = .ok (.if_icmp .ne 17, 3) := by decide +kernel
theorem dX8_noteTold_153 : decode cX8_noteTold 153 = .ok (.aload_n 0, 1) := by decide +kernel
theorem dX8_noteTold_154 : decode cX8_noteTold 154 = .ok (.iload_n 1, 1) := by decide +kernel
theorem dX8_noteTold_155 : decode cX8_noteTold 155 = .ok (.iconst 0, 1) := by decide +kernel
theorem dX8_noteTold_156 : decode cX8_noteTold 156 = .ok (.iload 5, 2) := by decide +kernel
theorem dX8_noteTold_158 : decode cX8_noteTold 158 = .ok (.iload 6, 2) := by decide +kernel
theorem dX8_noteTold_160 : decode cX8_noteTold 160 = .ok (.iconst 1, 1) := by decide +kernel
theorem dX8_noteTold_161 : decode cX8_noteTold 161 = .ok (.invokevirtual 253, 3) := by decide +kernel
theorem dX8_noteTold_164 : decode cX8_noteTold 164 = .ok (.goto 4, 3) := by decide +kernel
theorem dX8_noteTold_167 : decode cX8_noteTold 167 = .ok (.iconst 0, 1) := by decide +kernel
theorem dX8_noteTold_168 : decode cX8_noteTold 168 = .ok (.iastore, 1) := by decide +kernel
theorem dX8_noteTold_169 : decode cX8_noteTold 169 = .ok (.aload_n 0, 1) := by decide +kernel
theorem dX8_noteTold_170 : decode cX8_noteTold 170 = .ok (.getfield 96, 3) := by decide +kernel
theorem dX8_noteTold_173 : decode cX8_noteTold 173 = .ok (.iload 4, 2) := by decide +kernel
theorem dX8_noteTold_175 : decode cX8_noteTold 175 = .ok (.iload 5, 2) := by decide +kernel
theorem dX8_noteTold_177 : decode cX8_noteTold 177 = .ok (.iconst 1, 1) := by decide +kernel
theorem dX8_noteTold_178 : decode cX8_noteTold 178 = .ok (.if_icmp .ne 17, 3) := by decide +kernel
theorem dX8_noteTold_181 : decode cX8_noteTold 181 = .ok (.aload_n 0, 1) := by decide +kernel
theorem dX8_noteTold_182 : decode cX8_noteTold 182 = .ok (.iload_n 1, 1) := by decide +kernel
theorem dX8_noteTold_183 : decode cX8_noteTold 183 = .ok (.iconst 0, 1) := by decide +kernel
theorem dX8_noteTold_184 : decode cX8_noteTold 184 = .ok (.iload 5, 2) := by decide +kernel
theorem dX8_noteTold_186 : decode cX8_noteTold 186 = .ok (.iload 6, 2) := by decide +kernel
theorem dX8_noteTold_188 : decode cX8_noteTold 188 = .ok (.iconst 4, 1) := by decide +kernel
theorem dX8_noteTold_189 : decode cX8_noteTold 189 = .ok (.invokevirtual 253, 3) := by decide +kernel
theorem dX8_noteTold_192 : decode cX8_noteTold 192 = .ok (.goto 4, 3) := by decide +kernel
theorem dX8_noteTold_195 : decode cX8_noteTold 195 = .ok (.iconst 0, 1) := by decide +kernel
theorem dX8_noteTold_196 : decode cX8_noteTold 196 = .ok (.iastore, 1) := by decide +kernel
theorem dX8_noteTold_197 : decode cX8_noteTold 197 = .ok (.iinc 2 1, 3) := by decide +kernel
theorem dX8_noteTold_200 : decode cX8_noteTold 200 = .ok (.goto (-171), 3) := by decide +kernel
theorem dX8_noteTold_203 : decode cX8_noteTold 203 = .ok (.iinc 1 1, 3) := by decide +kernel
theorem dX8_noteTold_206 : decode cX8_noteTold 206 = .ok (.goto (-204), 3) := by decide +kernel
theorem dX8_noteTold_209 : decode cX8_noteTold 209 = .ok (.return_, 1) := by decide +kernel
theorem dX8_isBroken_0 : decode cX8_isBroken 0 = .ok (.aload_n 0, 1) := by decide +kernel
theorem dX8_isBroken_1 : decode cX8_isBroken 1 = .ok (.getfield 87, 3) := by decide +kernel
theorem dX8_isBroken_4 : decode cX8_isBroken 4 = .ok (.iload_n 1, 1) := by decide +kernel
theorem dX8_isBroken_5 : decode cX8_isBroken 5 = .ok (.iaload, 1) := by decide +kernel
theorem dX8_isBroken_6 : decode cX8_isBroken 6 = .ok (.bipush 100, 2) := by decide +kernel
theorem dX8_isBroken_8 : decode cX8_isBroken 8 = .ok (.idiv, 1) := by decide +kernel
theorem dX8_isBroken_9 : decode cX8_isBroken 9 = .ok (.istore_n 3, 1) := by decide +kernel
theorem dX8_isBroken_10 : decode cX8_isBroken 10 = .ok (.aload_n 0, 1) := by decide +kernel
theorem dX8_isBroken_11 : decode cX8_isBroken 11 = .ok (.getfield 78, 3) := by decide +kernel
theorem dX8_isBroken_14 : decode cX8_isBroken 14 = .ok (.iconst 4, 1) := by decide +kernel
theorem dX8_isBroken_15 : decode cX8_isBroken 15 = .ok (.iload_n 2, 1) := by decide +kernel
theorem dX8_isBroken_16 : decode cX8_isBroken 16 = .ok (.imul, 1) := by decide +kernel
theorem dX8_isBroken_17 : decode cX8_isBroken 17 = .ok (.aload_n 0, 1) := by decide +kernel
theorem dX8_isBroken_18 : decode cX8_isBroken 18 = .ok (.getfield 87, 3) := by decide +kernel
theorem dX8_isBroken_21 : decode cX8_isBroken 21 = .ok (.iload_n 1, 1) := by decide +kernel
theorem dX8_isBroken_22 : decode cX8_isBroken 22 = .ok (.iaload, 1) := by decide +kernel
theorem dX8_isBroken_23 : decode cX8_isBroken 23 = .ok (.bipush 10, 2) := by decide +kernel
theorem dX8_isBroken_25 : decode cX8_isBroken 25 = .ok (.idiv, 1) := by decide +kernel
theorem dX8_isBroken_26 : decode cX8_isBroken 26 = .ok (.bipush 10, 2) := by decide +kernel
theorem dX8_isBroken_28 : decode cX8_isBroken 28 = .ok (.irem, 1) := by decide +kernel
theorem dX8_isBroken_29 : decode cX8_isBroken 29 = .ok (.iadd, 1) := by decide +kernel
theorem dX8_isBroken_30 : decode cX8_isBroken 30 = .ok (.iaload, 1) := by decide +kernel
theorem dX8_isBroken_31 : decode cX8_isBroken 31 = .ok (.istore 4, 2) := by decide +kernel
theorem dX8_isBroken_33 : decode cX8_isBroken 33 = .ok (.aload_n 0, 1) := by decide +kernel
theorem dX8_isBroken_34 : decode cX8_isBroken 34 = .ok (.getfield 78, 3) := by decide +kernel
theorem dX8_isBroken_37 : decode cX8_isBroken 37 = .ok (.iconst 4, 1) := by decide +kernel
theorem dX8_isBroken_38 : decode cX8_isBroken 38 = .ok (.iload_n 2, 1) := by decide +kernel
theorem dX8_isBroken_39 : decode cX8_isBroken 39 = .ok (.imul, 1) := by decide +kernel
theorem dX8_isBroken_40 : decode cX8_isBroken 40 = .ok (.aload_n 0, 1) := by decide +kernel
theorem dX8_isBroken_41 : decode cX8_isBroken 41 = .ok (.getfield 87, 3) := by decide +kernel
theorem dX8_isBroken_44 : decode cX8_isBroken 44 = .ok (.iload_n 1, 1) := by decide +kernel
theorem dX8_isBroken_45 : decode cX8_isBroken 45 = .ok (.iaload, 1) := by decide +kernel
theorem dX8_isBroken_46 : decode cX8_isBroken 46 = .ok (.bipush 10, 2) := by decide +kernel
theorem dX8_isBroken_48 : decode cX8_isBroken 48 = .ok (.irem, 1) := by decide +kernel
theorem dX8_isBroken_49 : decode cX8_isBroken 49 = .ok (.iadd, 1) := by decide +kernel
theorem dX8_isBroken_50 : decode cX8_isBroken 50 = .ok (.iaload, 1) := by decide +kernel
theorem dX8_isBroken_51 : decode cX8_isBroken 51 = .ok (.istore 5, 2) := by decide +kernel
theorem dX8_isBroken_53 : decode cX8_isBroken 53 = .ok (.iload_n 3, 1) := by decide +kernel
theorem dX8_isBroken_54 : decode cX8_isBroken 54 = .ok (.tableswitch 172 0 9 #[54, 71, 110, 127, 144, 172, 172, 172, 172, 170], 54) := by decide +kernel
theorem dX8_isBroken_108 : decode cX8_isBroken 108 = .ok (.iload 4, 2) := by decide +kernel
theorem dX8_isBroken_110 : decode cX8_isBroken 110 = .ok (.aload_n 0, 1) := by decide +kernel
theorem dX8_isBroken_111 : decode cX8_isBroken 111 = .ok (.getfield 90, 3) := by decide +kernel
theorem dX8_isBroken_114 : decode cX8_isBroken 114 = .ok (.iload_n 1, 1) := by decide +kernel
theorem dX8_isBroken_115 : decode cX8_isBroken 115 = .ok (.iaload, 1) := by decide +kernel
theorem dX8_isBroken_116 : decode cX8_isBroken 116 = .ok (.if_icmp .eq 7, 3) := by decide +kernel
theorem dX8_isBroken_119 : decode cX8_isBroken 119 = .ok (.iconst 1, 1) := by decide +kernel
theorem dX8_isBroken_120 : decode cX8_isBroken 120 = .ok (.goto 4, 3) := by decide +kernel
theorem dX8_isBroken_123 : decode cX8_isBroken 123 = .ok (.iconst 0, 1) := by decide +kernel
theorem dX8_isBroken_124 : decode cX8_isBroken 124 = .ok (.ireturn, 1) := by decide +kernel
theorem dX8_isBroken_125 : decode cX8_isBroken 125 = .ok (.iload 4, 2) := by decide +kernel
theorem dX8_isBroken_127 : decode cX8_isBroken 127 = .ok (.aload_n 0, 1) := by decide +kernel
theorem dX8_isBroken_128 : decode cX8_isBroken 128 = .ok (.getfield 90, 3) := by decide +kernel
theorem dX8_isBroken_131 : decode cX8_isBroken 131 = .ok (.iload_n 1, 1) := by decide +kernel
theorem dX8_isBroken_132 : decode cX8_isBroken 132 = .ok (.iaload, 1) := by decide +kernel
theorem dX8_isBroken_133 : decode cX8_isBroken 133 = .ok (.if_icmp .eq 29, 3) := by decide +kernel
theorem dX8_isBroken_136 : decode cX8_isBroken 136 = .ok (.iload 4, 2) := by decide +kernel
theorem dX8_isBroken_138 : decode cX8_isBroken 138 = .ok (.aload_n 0, 1) := by decide +kernel
theorem dX8_isBroken_139 : decode cX8_isBroken 139 = .ok (.getfield 93, 3) := by decide +kernel
theorem dX8_isBroken_142 : decode cX8_isBroken 142 = .ok (.iload_n 1, 1) := by decide +kernel
theorem dX8_isBroken_143 : decode cX8_isBroken 143 = .ok (.iaload, 1) := by decide +kernel
theorem dX8_isBroken_144 : decode cX8_isBroken 144 = .ok (.if_icmp .eq 18, 3) := by decide +kernel
theorem dX8_isBroken_147 : decode cX8_isBroken 147 = .ok (.iload 4, 2) := by decide +kernel
theorem dX8_isBroken_149 : decode cX8_isBroken 149 = .ok (.aload_n 0, 1) := by decide +kernel
theorem dX8_isBroken_150 : decode cX8_isBroken 150 = .ok (.getfield 96, 3) := by decide +kernel
theorem dX8_isBroken_153 : decode cX8_isBroken 153 = .ok (.iload_n 1, 1) := by decide +kernel
theorem dX8_isBroken_154 : decode cX8_isBroken 154 = .ok (.iaload, 1) := by decide +kernel
theorem dX8_isBroken_155 : decode cX8_isBroken 155 = .ok (.if_icmp .eq 7, 3) := by decide +kernel
theorem dX8_isBroken_158 : decode cX8_isBroken 158 = .ok (.iconst 1, 1) := by decide +kernel
theorem dX8_isBroken_159 : decode cX8_isBroken 159 = .ok (.goto 4, 3) := by decide +kernel
theorem dX8_isBroken_162 : decode cX8_isBroken 162 = .ok (.iconst 0, 1) := by decide +kernel
theorem dX8_isBroken_163 : decode cX8_isBroken 163 = .ok (.ireturn, 1) := by decide +kernel
theorem dX8_isBroken_164 : decode cX8_isBroken 164 = .ok (.iload 4, 2) := by decide +kernel
theorem dX8_isBroken_166 : decode cX8_isBroken 166 = .ok (.aload_n 0, 1) := by decide +kernel
theorem dX8_isBroken_167 : decode cX8_isBroken 167 = .ok (.getfield 90, 3) := by decide +kernel
theorem dX8_isBroken_170 : decode cX8_isBroken 170 = .ok (.iload_n 1, 1) := by decide +kernel
theorem dX8_isBroken_171 : decode cX8_isBroken 171 = .ok (.iaload, 1) := by decide +kernel
theorem dX8_isBroken_172 : decode cX8_isBroken 172 = .ok (.if_icmp .ge 7, 3) := by decide +kernel
theorem dX8_isBroken_175 : decode cX8_isBroken 175 = .ok (.iconst 1, 1) := by decide +kernel
theorem dX8_isBroken_176 : decode cX8_isBroken 176 = .ok (.goto 4, 3) := by decide +kernel
theorem dX8_isBroken_179 : decode cX8_isBroken 179 = .ok (.iconst 0, 1) := by decide +kernel
theorem dX8_isBroken_180 : decode cX8_isBroken 180 = .ok (.ireturn, 1) := by decide +kernel
theorem dX8_isBroken_181 : decode cX8_isBroken 181 = .ok (.iload 4, 2) := by decide +kernel
theorem dX8_isBroken_183 : decode cX8_isBroken 183 = .ok (.aload_n 0, 1) := by decide +kernel
theorem dX8_isBroken_184 : decode cX8_isBroken 184 = .ok (.getfield 90, 3) := by decide +kernel
theorem dX8_isBroken_187 : decode cX8_isBroken 187 = .ok (.iload_n 1, 1) := by decide +kernel
theorem dX8_isBroken_188 : decode cX8_isBroken 188 = .ok (.iaload, 1) := by decide +kernel
theorem dX8_isBroken_189 : decode cX8_isBroken 189 = .ok (.if_icmp .le 7, 3) := by decide +kernel
theorem dX8_isBroken_192 : decode cX8_isBroken 192 = .ok (.iconst 1, 1) := by decide +kernel
theorem dX8_isBroken_193 : decode cX8_isBroken 193 = .ok (.goto 4, 3) := by decide +kernel
theorem dX8_isBroken_196 : decode cX8_isBroken 196 = .ok (.iconst 0, 1) := by decide +kernel
theorem dX8_isBroken_197 : decode cX8_isBroken 197 = .ok (.ireturn, 1) := by decide +kernel
theorem dX8_isBroken_198 : decode cX8_isBroken 198 = .ok (.iload 4, 2) := by decide +kernel
theorem dX8_isBroken_200 : decode cX8_isBroken 200 = .ok (.aload_n 0, 1) := by decide +kernel
theorem dX8_isBroken_201 : decode cX8_isBroken 201 = .ok (.getfield 90, 3) := by decide +kernel
theorem dX8_isBroken_204 : decode cX8_isBroken 204 = .ok (.iload_n 1, 1) := by decide +kernel
theorem dX8_isBroken_205 : decode cX8_isBroken 205 = .ok (.iaload, 1) := by decide +kernel
theorem dX8_isBroken_206 : decode cX8_isBroken 206 = .ok (.invokestatic 148, 3) := by decide +kernel
theorem dX8_isBroken_209 : decode cX8_isBroken 209 = .ok (.aload_n 0, 1) := by decide +kernel
theorem dX8_isBroken_210 : decode cX8_isBroken 210 = .ok (.getfield 93, 3) := by decide +kernel
theorem dX8_isBroken_213 : decode cX8_isBroken 213 = .ok (.iload_n 1, 1) := by decide +kernel
theorem dX8_isBroken_214 : decode cX8_isBroken 214 = .ok (.iaload, 1) := by decide +kernel
theorem dX8_isBroken_215 : decode cX8_isBroken 215 = .ok (.if_icmp .eq 7, 3) := by decide +kernel
theorem dX8_isBroken_218 : decode cX8_isBroken 218 = .ok (.iconst 1, 1) := by decide +kernel
theorem dX8_isBroken_219 : decode cX8_isBroken 219 = .ok (.goto 4, 3) := by decide +kernel
theorem dX8_isBroken_222 : decode cX8_isBroken 222 = .ok (.iconst 0, 1) := by decide +kernel
theorem dX8_isBroken_223 : decode cX8_isBroken 223 = .ok (.ireturn, 1) := by decide +kernel
theorem dX8_isBroken_224 : decode cX8_isBroken 224 = .ok (.iconst 0, 1) := by decide +kernel
theorem dX8_isBroken_225 : decode cX8_isBroken 225 = .ok (.ireturn, 1) := by decide +kernel
theorem dX8_isBroken_226 : decode cX8_isBroken 226 = .ok (.iload_n 3, 1) := by decide +kernel
theorem dX8_isBroken_227 : decode cX8_isBroken 227 = .ok (.iload 4, 2) := by decide +kernel
theorem dX8_isBroken_229 : decode cX8_isBroken 229 = .ok (.iload 5, 2) := by decide +kernel
theorem dX8_isBroken_231 : decode cX8_isBroken 231 = .ok (.invokestatic 151, 3) := by decide +kernel
theorem dX8_isBroken_234 : decode cX8_isBroken 234 = .ok (.ifCond .ne 7, 3) := by decide +kernel
theorem dX8_isBroken_237 : decode cX8_isBroken 237 = .ok (.iconst 1, 1) := by decide +kernel
theorem dX8_isBroken_238 : decode cX8_isBroken 238 = .ok (.goto 4, 3) := by decide +kernel
theorem dX8_isBroken_241 : decode cX8_isBroken 241 = .ok (.iconst 0, 1) := by decide +kernel
theorem dX8_isBroken_242 : decode cX8_isBroken 242 = .ok (.ireturn, 1) := by decide +kernel
theorem dX8_broken_0 : decode cX8_broken 0 = .ok (.aload_n 0, 1) := by decide +kernel
theorem dX8_broken_1 : decode cX8_broken 1 = .ok (.getfield 75, 3) := by decide +kernel
theorem dX8_broken_4 : decode cX8_broken 4 = .ok (.iload_n 1, 1) := by decide +kernel
theorem dX8_broken_5 : decode cX8_broken 5 = .ok (.iaload, 1) := by decide +kernel
theorem dX8_broken_6 : decode cX8_broken 6 = .ok (.istore_n 2, 1) := by decide +kernel
theorem dX8_broken_7 : decode cX8_broken 7 = .ok (.iconst 0, 1) := by decide +kernel
theorem dX8_broken_8 : decode cX8_broken 8 = .ok (.istore_n 3, 1) := by decide +kernel
theorem dX8_broken_9 : decode cX8_broken 9 = .ok (.iload_n 3, 1) := by decide +kernel
theorem dX8_broken_10 : decode cX8_broken 10 = .ok (.aload_n 0, 1) := by decide +kernel
theorem dX8_broken_11 : decode cX8_broken 11 = .ok (.getfield 84, 3) := by decide +kernel
theorem dX8_broken_14 : decode cX8_broken 14 = .ok (.iload_n 2, 1) := by decide +kernel
theorem dX8_broken_15 : decode cX8_broken 15 = .ok (.iaload, 1) := by decide +kernel
theorem dX8_broken_16 : decode cX8_broken 16 = .ok (.if_icmp .ge 35, 3) := by decide +kernel
theorem dX8_broken_19 : decode cX8_broken 19 = .ok (.aload_n 0, 1) := by decide +kernel
theorem dX8_broken_20 : decode cX8_broken 20 = .ok (.bipush 100, 2) := by decide +kernel
theorem dX8_broken_22 : decode cX8_broken 22 = .ok (.iload_n 2, 1) := by decide +kernel
theorem dX8_broken_23 : decode cX8_broken 23 = .ok (.imul, 1) := by decide +kernel
theorem dX8_broken_24 : decode cX8_broken 24 = .ok (.iload_n 3, 1) := by decide +kernel
theorem dX8_broken_25 : decode cX8_broken 25 = .ok (.iadd, 1) := by decide +kernel
theorem dX8_broken_26 : decode cX8_broken 26 = .ok (.iload_n 1, 1) := by decide +kernel
theorem dX8_broken_27 : decode cX8_broken 27 = .ok (.invokevirtual 256, 3) := by decide +kernel
theorem dX8_broken_30 : decode cX8_broken 30 = .ok (.ifCond .eq 15, 3) := by decide +kernel
theorem dX8_broken_33 : decode cX8_broken 33 = .ok (.aload_n 0, 1) := by decide +kernel
theorem dX8_broken_34 : decode cX8_broken 34 = .ok (.getfield 87, 3) := by decide +kernel
theorem dX8_broken_37 : decode cX8_broken 37 = .ok (.bipush 100, 2) := by decide +kernel
theorem dX8_broken_39 : decode cX8_broken 39 = .ok (.iload_n 2, 1) := by decide +kernel
theorem dX8_broken_40 : decode cX8_broken 40 = .ok (.imul, 1) := by decide +kernel
theorem dX8_broken_41 : decode cX8_broken 41 = .ok (.iload_n 3, 1) := by decide +kernel
theorem dX8_broken_42 : decode cX8_broken 42 = .ok (.iadd, 1) := by decide +kernel
theorem dX8_broken_43 : decode cX8_broken 43 = .ok (.iaload, 1) := by decide +kernel
theorem dX8_broken_44 : decode cX8_broken 44 = .ok (.ireturn, 1) := by decide +kernel
theorem dX8_broken_45 : decode cX8_broken 45 = .ok (.iinc 3 1, 3) := by decide +kernel
theorem dX8_broken_48 : decode cX8_broken 48 = .ok (.goto (-39), 3) := by decide +kernel
theorem dX8_broken_51 : decode cX8_broken 51 = .ok (.iconst (-1), 1) := by decide +kernel
theorem dX8_broken_52 : decode cX8_broken 52 = .ok (.ireturn, 1) := by decide +kernel
theorem dX8_note_0 : decode cX8_note 0 = .ok (.aload_n 0, 1) := by decide +kernel
theorem dX8_note_1 : decode cX8_note 1 = .ok (.iload_n 1, 1) := by decide +kernel
theorem dX8_note_2 : decode cX8_note 2 = .ok (.putfield 112, 3) := by decide +kernel
theorem dX8_note_5 : decode cX8_note 5 = .ok (.aload_n 0, 1) := by decide +kernel
theorem dX8_note_6 : decode cX8_note 6 = .ok (.aload_n 0, 1) := by decide +kernel
theorem dX8_note_7 : decode cX8_note 7 = .ok (.getfield 75, 3) := by decide +kernel
theorem dX8_note_10 : decode cX8_note 10 = .ok (.iload_n 2, 1) := by decide +kernel
theorem dX8_note_11 : decode cX8_note 11 = .ok (.iaload, 1) := by decide +kernel
theorem dX8_note_12 : decode cX8_note 12 = .ok (.putfield 259, 3) := by decide +kernel
theorem dX8_note_15 : decode cX8_note 15 = .ok (.aload_n 0, 1) := by decide +kernel
theorem dX8_note_16 : decode cX8_note 16 = .ok (.iload_n 2, 1) := by decide +kernel
theorem dX8_note_17 : decode cX8_note 17 = .ok (.putfield 262, 3) := by decide +kernel
theorem dX8_note_20 : decode cX8_note 20 = .ok (.iconst 0, 1) := by decide +kernel
theorem dX8_note_21 : decode cX8_note 21 = .ok (.istore_n 3, 1) := by decide +kernel
theorem dX8_note_22 : decode cX8_note 22 = .ok (.iload_n 3, 1) := by decide +kernel
theorem dX8_note_23 : decode cX8_note 23 = .ok (.iconst 4, 1) := by decide +kernel
theorem dX8_note_24 : decode cX8_note 24 = .ok (.if_icmp .ge 25, 3) := by decide +kernel
theorem dX8_note_27 : decode cX8_note 27 = .ok (.aload_n 0, 1) := by decide +kernel
theorem dX8_note_28 : decode cX8_note 28 = .ok (.getfield 99, 3) := by decide +kernel
theorem dX8_note_31 : decode cX8_note 31 = .ok (.iload_n 3, 1) := by decide +kernel
theorem dX8_note_32 : decode cX8_note 32 = .ok (.aload_n 0, 1) := by decide +kernel
theorem dX8_note_33 : decode cX8_note 33 = .ok (.getfield 78, 3) := by decide +kernel
theorem dX8_note_36 : decode cX8_note 36 = .ok (.iconst 4, 1) := by decide +kernel
theorem dX8_note_37 : decode cX8_note 37 = .ok (.iload_n 2, 1) := by decide +kernel
theorem dX8_note_38 : decode cX8_note 38 = .ok (.imul, 1) := by decide +kernel
theorem dX8_note_39 : decode cX8_note 39 = .ok (.iload_n 3, 1) := by decide +kernel
theorem dX8_note_40 : decode cX8_note 40 = .ok (.iadd, 1) := by decide +kernel
theorem dX8_note_41 : decode cX8_note 41 = .ok (.iaload, 1) := by decide +kernel
theorem dX8_note_42 : decode cX8_note 42 = .ok (.iastore, 1) := by decide +kernel
theorem dX8_note_43 : decode cX8_note 43 = .ok (.iinc 3 1, 3) := by decide +kernel
theorem dX8_note_46 : decode cX8_note 46 = .ok (.goto (-24), 3) := by decide +kernel
theorem dX8_note_49 : decode cX8_note 49 = .ok (.iconst 0, 1) := by decide +kernel
theorem dX8_note_50 : decode cX8_note 50 = .ok (.istore_n 3, 1) := by decide +kernel
theorem dX8_note_51 : decode cX8_note 51 = .ok (.iload_n 3, 1) := by decide +kernel
theorem dX8_note_52 : decode cX8_note 52 = .ok (.iload_n 2, 1) := by decide +kernel
theorem dX8_note_53 : decode cX8_note 53 = .ok (.if_icmp .ge 21, 3) := by decide +kernel
theorem dX8_note_56 : decode cX8_note 56 = .ok (.aload_n 0, 1) := by decide +kernel
theorem dX8_note_57 : decode cX8_note 57 = .ok (.getfield 102, 3) := by decide +kernel
theorem dX8_note_60 : decode cX8_note 60 = .ok (.iload_n 3, 1) := by decide +kernel
theorem dX8_note_61 : decode cX8_note 61 = .ok (.aload_n 0, 1) := by decide +kernel
theorem dX8_note_62 : decode cX8_note 62 = .ok (.getfield 81, 3) := by decide +kernel
theorem dX8_note_65 : decode cX8_note 65 = .ok (.iload_n 3, 1) := by decide +kernel
theorem dX8_note_66 : decode cX8_note 66 = .ok (.iaload, 1) := by decide +kernel
theorem dX8_note_67 : decode cX8_note 67 = .ok (.iastore, 1) := by decide +kernel
theorem dX8_note_68 : decode cX8_note 68 = .ok (.iinc 3 1, 3) := by decide +kernel
theorem dX8_note_71 : decode cX8_note 71 = .ok (.goto (-20), 3) := by decide +kernel
theorem dX8_note_74 : decode cX8_note 74 = .ok (.return_, 1) := by decide +kernel
theorem dX8_goThrough_0 : decode cX8_goThrough 0 = .ok (.iconst 0, 1) := by decide +kernel
theorem dX8_goThrough_1 : decode cX8_goThrough 1 = .ok (.istore_n 2, 1) := by decide +kernel
theorem dX8_goThrough_2 : decode cX8_goThrough 2 = .ok (.aload_n 0, 1) := by decide +kernel
theorem dX8_goThrough_3 : decode cX8_goThrough 3 = .ok (.getfield 81, 3) := by decide +kernel
theorem dX8_goThrough_6 : decode cX8_goThrough 6 = .ok (.iconst 0, 1) := by decide +kernel
theorem dX8_goThrough_7 : decode cX8_goThrough 7 = .ok (.iconst (-1), 1) := by decide +kernel
theorem dX8_goThrough_8 : decode cX8_goThrough 8 = .ok (.iastore, 1) := by decide +kernel
theorem dX8_goThrough_9 : decode cX8_goThrough 9 = .ok (.iload_n 2, 1) := by decide +kernel
theorem dX8_goThrough_10 : decode cX8_goThrough 10 = .ok (.ifCond .lt 140, 3) := by decide +kernel
theorem dX8_goThrough_13 : decode cX8_goThrough 13 = .ok (.aload_n 0, 1) := by decide +kernel
theorem dX8_goThrough_14 : decode cX8_goThrough 14 = .ok (.getfield 81, 3) := by decide +kernel
theorem dX8_goThrough_17 : decode cX8_goThrough 17 = .ok (.iload_n 2, 1) := by decide +kernel
theorem dX8_goThrough_18 : decode cX8_goThrough 18 = .ok (.iaload, 1) := by decide +kernel
theorem dX8_goThrough_19 : decode cX8_goThrough 19 = .ok (.iconst 1, 1) := by decide +kernel
theorem dX8_goThrough_20 : decode cX8_goThrough 20 = .ok (.iadd, 1) := by decide +kernel
theorem dX8_goThrough_21 : decode cX8_goThrough 21 = .ok (.istore_n 3, 1) := by decide +kernel
theorem dX8_goThrough_22 : decode cX8_goThrough 22 = .ok (.iload_n 3, 1) := by decide +kernel
theorem dX8_goThrough_23 : decode cX8_goThrough 23 = .ok (.aload_n 0, 1) := by decide +kernel
theorem dX8_goThrough_24 : decode cX8_goThrough 24 = .ok (.getfield 241, 3) := by decide +kernel
theorem dX8_goThrough_27 : decode cX8_goThrough 27 = .ok (.if_icmp .ge 24, 3) := by decide +kernel
theorem dX8_goThrough_30 : decode cX8_goThrough 30 = .ok (.aload_n 0, 1) := by decide +kernel
theorem dX8_goThrough_31 : decode cX8_goThrough 31 = .ok (.getfield 60, 3) := by decide +kernel
theorem dX8_goThrough_34 : decode cX8_goThrough 34 = .ok (.iload_n 3, 1) := by decide +kernel
theorem dX8_goThrough_35 : decode cX8_goThrough 35 = .ok (.iaload, 1) := by decide +kernel
theorem dX8_goThrough_36 : decode cX8_goThrough 36 = .ok (.aload_n 0, 1) := by decide +kernel
theorem dX8_goThrough_37 : decode cX8_goThrough 37 = .ok (.getfield 75, 3) := by decide +kernel
theorem dX8_goThrough_40 : decode cX8_goThrough 40 = .ok (.iload_n 2, 1) := by decide +kernel
theorem dX8_goThrough_41 : decode cX8_goThrough 41 = .ok (.iaload, 1) := by decide +kernel
theorem dX8_goThrough_42 : decode cX8_goThrough 42 = .ok (.if_icmp .eq 9, 3) := by decide +kernel
theorem dX8_goThrough_45 : decode cX8_goThrough 45 = .ok (.iinc 3 1, 3) := by decide +kernel
theorem dX8_goThrough_48 : decode cX8_goThrough 48 = .ok (.goto (-26), 3) := by decide +kernel
theorem dX8_goThrough_51 : decode cX8_goThrough 51 = .ok (.aload_n 0, 1) := by decide +kernel
theorem dX8_goThrough_52 : decode cX8_goThrough 52 = .ok (.getfield 81, 3) := by decide +kernel
theorem dX8_goThrough_55 : decode cX8_goThrough 55 = .ok (.iload_n 2, 1) := by decide +kernel
theorem dX8_goThrough_56 : decode cX8_goThrough 56 = .ok (.iload_n 3, 1) := by decide +kernel
theorem dX8_goThrough_57 : decode cX8_goThrough 57 = .ok (.iastore, 1) := by decide +kernel
theorem dX8_goThrough_58 : decode cX8_goThrough 58 = .ok (.iload_n 3, 1) := by decide +kernel
theorem dX8_goThrough_59 : decode cX8_goThrough 59 = .ok (.aload_n 0, 1) := by decide +kernel
theorem dX8_goThrough_60 : decode cX8_goThrough 60 = .ok (.getfield 241, 3) := by decide +kernel
theorem dX8_goThrough_63 : decode cX8_goThrough 63 = .ok (.if_icmp .ne 9, 3) := by decide +kernel
theorem dX8_goThrough_66 : decode cX8_goThrough 66 = .ok (.iinc 2 (-1), 3) := by decide +kernel
theorem dX8_goThrough_69 : decode cX8_goThrough 69 = .ok (.goto (-60), 3) := by decide +kernel
theorem dX8_goThrough_72 : decode cX8_goThrough 72 = .ok (.aload_n 0, 1) := by decide +kernel
theorem dX8_goThrough_73 : decode cX8_goThrough 73 = .ok (.iload_n 2, 1) := by decide +kernel
theorem dX8_goThrough_74 : decode cX8_goThrough 74 = .ok (.iload_n 3, 1) := by decide +kernel
theorem dX8_goThrough_75 : decode cX8_goThrough 75 = .ok (.invokevirtual 265, 3) := by decide +kernel
theorem dX8_goThrough_78 : decode cX8_goThrough 78 = .ok (.istore 4, 2) := by decide +kernel
theorem dX8_goThrough_80 : decode cX8_goThrough 80 = .ok (.iload_n 2, 1) := by decide +kernel
theorem dX8_goThrough_81 : decode cX8_goThrough 81 = .ok (.iconst 1, 1) := by decide +kernel
theorem dX8_goThrough_82 : decode cX8_goThrough 82 = .ok (.iadd, 1) := by decide +kernel
theorem dX8_goThrough_83 : decode cX8_goThrough 83 = .ok (.iload_n 1, 1) := by decide +kernel
theorem dX8_goThrough_84 : decode cX8_goThrough 84 = .ok (.if_icmp .ne 48, 3) := by decide +kernel
theorem dX8_goThrough_87 : decode cX8_goThrough 87 = .ok (.aload_n 0, 1) := by decide +kernel
theorem dX8_goThrough_88 : decode cX8_goThrough 88 = .ok (.dup, 1) := by decide +kernel
theorem dX8_goThrough_89 : decode cX8_goThrough 89 = .ok (.getfield 268, 3) := by decide +kernel
theorem dX8_goThrough_92 : decode cX8_goThrough 92 = .ok (.iconst 1, 1) := by decide +kernel
theorem dX8_goThrough_93 : decode cX8_goThrough 93 = .ok (.iadd, 1) := by decide +kernel
theorem dX8_goThrough_94 : decode cX8_goThrough 94 = .ok (.putfield 268, 3) := by decide +kernel
theorem dX8_goThrough_97 : decode cX8_goThrough 97 = .ok (.iload 4, 2) := by decide +kernel
theorem dX8_goThrough_99 : decode cX8_goThrough 99 = .ok (.ifCond .eq 13, 3) := by decide +kernel
theorem dX8_goThrough_102 : decode cX8_goThrough 102 = .ok (.aload_n 0, 1) := by decide +kernel
theorem dX8_goThrough_103 : decode cX8_goThrough 103 = .ok (.iload_n 2, 1) := by decide +kernel
theorem dX8_goThrough_104 : decode cX8_goThrough 104 = .ok (.iconst 1, 1) := by decide +kernel
theorem dX8_goThrough_105 : decode cX8_goThrough 105 = .ok (.iadd, 1) := by decide +kernel
theorem dX8_goThrough_106 : decode cX8_goThrough 106 = .ok (.invokevirtual 271, 3) := by decide +kernel
theorem dX8_goThrough_109 : decode cX8_goThrough 109 = .ok (.goto 4, 3) := by decide +kernel
theorem dX8_goThrough_112 : decode cX8_goThrough 112 = .ok (.iconst (-1), 1) := by decide +kernel
theorem dX8_goThrough_113 : decode cX8_goThrough 113 = .ok (.istore 5, 2) := by decide +kernel
theorem dX8_goThrough_115 : decode cX8_goThrough 115 = .ok (.iload 5, 2) := by decide +kernel
theorem dX8_goThrough_117 : decode cX8_goThrough 117 = .ok (.ifCond .lt 12, 3) := by decide +kernel
theorem dX8_goThrough_120 : decode cX8_goThrough 120 = .ok (.aload_n 0, 1) := by decide +kernel
theorem dX8_goThrough_121 : decode cX8_goThrough 121 = .ok (.iload 5, 2) := by decide +kernel
theorem dX8_goThrough_123 : decode cX8_goThrough 123 = .ok (.iload_n 1, 1) := by decide +kernel
theorem dX8_goThrough_124 : decode cX8_goThrough 124 = .ok (.invokevirtual 275, 3) := by decide +kernel
theorem dX8_goThrough_127 : decode cX8_goThrough 127 = .ok (.iconst 1, 1) := by decide +kernel
theorem dX8_goThrough_128 : decode cX8_goThrough 128 = .ok (.ireturn, 1) := by decide +kernel
theorem dX8_goThrough_129 : decode cX8_goThrough 129 = .ok (.goto 18, 3) := by decide +kernel
theorem dX8_goThrough_132 : decode cX8_goThrough 132 = .ok (.iload 4, 2) := by decide +kernel
theorem dX8_goThrough_134 : decode cX8_goThrough 134 = .ok (.ifCond .eq 13, 3) := by decide +kernel
theorem dX8_goThrough_137 : decode cX8_goThrough 137 = .ok (.iinc 2 1, 3) := by decide +kernel
theorem dX8_goThrough_140 : decode cX8_goThrough 140 = .ok (.aload_n 0, 1) := by decide +kernel
theorem dX8_goThrough_141 : decode cX8_goThrough 141 = .ok (.getfield 81, 3) := by decide +kernel
theorem dX8_goThrough_144 : decode cX8_goThrough 144 = .ok (.iload_n 2, 1) := by decide +kernel
theorem dX8_goThrough_145 : decode cX8_goThrough 145 = .ok (.iconst (-1), 1) := by decide +kernel
theorem dX8_goThrough_146 : decode cX8_goThrough 146 = .ok (.iastore, 1) := by decide +kernel
theorem dX8_goThrough_147 : decode cX8_goThrough 147 = .ok (.goto (-138), 3) := by decide +kernel
theorem dX8_goThrough_150 : decode cX8_goThrough 150 = .ok (.iconst 0, 1) := by decide +kernel
theorem dX8_goThrough_151 : decode cX8_goThrough 151 = .ok (.ireturn, 1) := by decide +kernel
theorem dX8_search_0 : decode cX8_search 0 = .ok (.iload_n 1, 1) := by decide +kernel
theorem dX8_search_1 : decode cX8_search 1 = .ok (.iconst 0, 1) := by decide +kernel
theorem dX8_search_2 : decode cX8_search 2 = .ok (.iconst 5, 1) := by decide +kernel
theorem dX8_search_3 : decode cX8_search 3 = .ok (.invokestatic 115, 3) := by decide +kernel
theorem dX8_search_6 : decode cX8_search 6 = .ok (.ifCond .ne 6, 3) := by decide +kernel
theorem dX8_search_9 : decode cX8_search 9 = .ok (.bipush (-2), 2) := by decide +kernel
theorem dX8_search_11 : decode cX8_search 11 = .ok (.ireturn, 1) := by decide +kernel
theorem dX8_search_12 : decode cX8_search 12 = .ok (.aload_n 0, 1) := by decide +kernel
theorem dX8_search_13 : decode cX8_search 13 = .ok (.getfield 109, 3) := by decide +kernel
theorem dX8_search_16 : decode cX8_search 16 = .ok (.ifCond .ge 6, 3) := by decide +kernel
theorem dX8_search_19 : decode cX8_search 19 = .ok (.bipush (-3), 2) := by decide +kernel
theorem dX8_search_21 : decode cX8_search 21 = .ok (.ireturn, 1) := by decide +kernel
theorem dX8_search_22 : decode cX8_search 22 = .ok (.aload_n 0, 1) := by decide +kernel
theorem dX8_search_23 : decode cX8_search 23 = .ok (.invokevirtual 278, 3) := by decide +kernel
theorem dX8_search_26 : decode cX8_search 26 = .ok (.aload_n 0, 1) := by decide +kernel
theorem dX8_search_27 : decode cX8_search 27 = .ok (.invokevirtual 281, 3) := by decide +kernel
theorem dX8_search_30 : decode cX8_search 30 = .ok (.aload_n 0, 1) := by decide +kernel
theorem dX8_search_31 : decode cX8_search 31 = .ok (.iconst 1, 1) := by decide +kernel
theorem dX8_search_32 : decode cX8_search 32 = .ok (.putfield 268, 3) := by decide +kernel
theorem dX8_search_35 : decode cX8_search 35 = .ok (.aload_n 0, 1) := by decide +kernel
theorem dX8_search_36 : decode cX8_search 36 = .ok (.iconst 0, 1) := by decide +kernel
theorem dX8_search_37 : decode cX8_search 37 = .ok (.invokevirtual 271, 3) := by decide +kernel
theorem dX8_search_40 : decode cX8_search 40 = .ok (.istore_n 2, 1) := by decide +kernel
theorem dX8_search_41 : decode cX8_search 41 = .ok (.iload_n 2, 1) := by decide +kernel
theorem dX8_search_42 : decode cX8_search 42 = .ok (.ifCond .lt 11, 3) := by decide +kernel
theorem dX8_search_45 : decode cX8_search 45 = .ok (.aload_n 0, 1) := by decide +kernel
theorem dX8_search_46 : decode cX8_search 46 = .ok (.iload_n 2, 1) := by decide +kernel
theorem dX8_search_47 : decode cX8_search 47 = .ok (.iconst 0, 1) := by decide +kernel
theorem dX8_search_48 : decode cX8_search 48 = .ok (.invokevirtual 275, 3) := by decide +kernel
theorem dX8_search_51 : decode cX8_search 51 = .ok (.iconst 1, 1) := by decide +kernel
theorem dX8_search_52 : decode cX8_search 52 = .ok (.ireturn, 1) := by decide +kernel
theorem dX8_search_53 : decode cX8_search 53 = .ok (.iconst 1, 1) := by decide +kernel
theorem dX8_search_54 : decode cX8_search 54 = .ok (.istore_n 3, 1) := by decide +kernel
theorem dX8_search_55 : decode cX8_search 55 = .ok (.iload_n 3, 1) := by decide +kernel
theorem dX8_search_56 : decode cX8_search 56 = .ok (.iload_n 1, 1) := by decide +kernel
theorem dX8_search_57 : decode cX8_search 57 = .ok (.if_icmp .gt 22, 3) := by decide +kernel
theorem dX8_search_60 : decode cX8_search 60 = .ok (.aload_n 0, 1) := by decide +kernel
theorem dX8_search_61 : decode cX8_search 61 = .ok (.iload_n 3, 1) := by decide +kernel
theorem dX8_search_62 : decode cX8_search 62 = .ok (.invokevirtual 284, 3) := by decide +kernel
theorem dX8_search_65 : decode cX8_search 65 = .ok (.ifCond .eq 8, 3) := by decide +kernel
theorem dX8_search_68 : decode cX8_search 68 = .ok (.aload_n 0, 1) := by decide +kernel
theorem dX8_search_69 : decode cX8_search 69 = .ok (.getfield 268, 3) := by decide +kernel
theorem dX8_search_72 : decode cX8_search 72 = .ok (.ireturn, 1) := by decide +kernel
theorem dX8_search_73 : decode cX8_search 73 = .ok (.iinc 3 1, 3) := by decide +kernel
theorem dX8_search_76 : decode cX8_search 76 = .ok (.goto (-21), 3) := by decide +kernel
theorem dX8_search_79 : decode cX8_search 79 = .ok (.bipush (-9), 2) := by decide +kernel
theorem dX8_search_81 : decode cX8_search 81 = .ok (.ireturn, 1) := by decide +kernel
theorem dX8_broke_0 : decode cX8_broke 0 = .ok (.aload_n 0, 1) := by decide +kernel
theorem dX8_broke_1 : decode cX8_broke 1 = .ok (.getfield 112, 3) := by decide +kernel
theorem dX8_broke_4 : decode cX8_broke 4 = .ok (.ifCond .ge 6, 3) := by decide +kernel
theorem dX8_broke_7 : decode cX8_broke 7 = .ok (.bipush (-9), 2) := by decide +kernel
theorem dX8_broke_9 : decode cX8_broke 9 = .ok (.ireturn, 1) := by decide +kernel
theorem dX8_broke_10 : decode cX8_broke 10 = .ok (.iload_n 1, 1) := by decide +kernel
theorem dX8_broke_11 : decode cX8_broke 11 = .ok (.iconst 3, 1) := by decide +kernel
theorem dX8_broke_12 : decode cX8_broke 12 = .ok (.iconst 2, 1) := by decide +kernel
theorem dX8_broke_13 : decode cX8_broke 13 = .ok (.aload_n 0, 1) := by decide +kernel
theorem dX8_broke_14 : decode cX8_broke 14 = .ok (.getfield 7, 3) := by decide +kernel
theorem dX8_broke_17 : decode cX8_broke 17 = .ok (.aload_n 0, 1) := by decide +kernel
theorem dX8_broke_18 : decode cX8_broke 18 = .ok (.getfield 259, 3) := by decide +kernel
theorem dX8_broke_21 : decode cX8_broke 21 = .ok (.iaload, 1) := by decide +kernel
theorem dX8_broke_22 : decode cX8_broke 22 = .ok (.iadd, 1) := by decide +kernel
theorem dX8_broke_23 : decode cX8_broke 23 = .ok (.invokestatic 115, 3) := by decide +kernel
theorem dX8_broke_26 : decode cX8_broke 26 = .ok (.ifCond .eq 12, 3) := by decide +kernel
theorem dX8_broke_29 : decode cX8_broke 29 = .ok (.aload_n 0, 1) := by decide +kernel
theorem dX8_broke_30 : decode cX8_broke 30 = .ok (.getfield 99, 3) := by decide +kernel
theorem dX8_broke_33 : decode cX8_broke 33 = .ok (.iload_n 1, 1) := by decide +kernel
theorem dX8_broke_34 : decode cX8_broke 34 = .ok (.iconst 3, 1) := by decide +kernel
theorem dX8_broke_35 : decode cX8_broke 35 = .ok (.isub, 1) := by decide +kernel
theorem dX8_broke_36 : decode cX8_broke 36 = .ok (.iaload, 1) := by decide +kernel
theorem dX8_broke_37 : decode cX8_broke 37 = .ok (.ireturn, 1) := by decide +kernel
theorem dX8_broke_38 : decode cX8_broke 38 = .ok (.iload_n 1, 1) := by decide +kernel
theorem dX8_broke_39 : decode cX8_broke 39 = .ok (.bipush 10, 2) := by decide +kernel
theorem dX8_broke_41 : decode cX8_broke 41 = .ok (.bipush 9, 2) := by decide +kernel
theorem dX8_broke_43 : decode cX8_broke 43 = .ok (.aload_n 0, 1) := by decide +kernel
theorem dX8_broke_44 : decode cX8_broke 44 = .ok (.getfield 262, 3) := by decide +kernel
theorem dX8_broke_47 : decode cX8_broke 47 = .ok (.iadd, 1) := by decide +kernel
theorem dX8_broke_48 : decode cX8_broke 48 = .ok (.invokestatic 115, 3) := by decide +kernel
theorem dX8_broke_51 : decode cX8_broke 51 = .ok (.ifCond .eq 13, 3) := by decide +kernel
theorem dX8_broke_54 : decode cX8_broke 54 = .ok (.aload_n 0, 1) := by decide +kernel
theorem dX8_broke_55 : decode cX8_broke 55 = .ok (.getfield 102, 3) := by decide +kernel
theorem dX8_broke_58 : decode cX8_broke 58 = .ok (.iload_n 1, 1) := by decide +kernel
theorem dX8_broke_59 : decode cX8_broke 59 = .ok (.bipush 10, 2) := by decide +kernel
theorem dX8_broke_61 : decode cX8_broke 61 = .ok (.isub, 1) := by decide +kernel
theorem dX8_broke_62 : decode cX8_broke 62 = .ok (.iaload, 1) := by decide +kernel
theorem dX8_broke_63 : decode cX8_broke 63 = .ok (.ireturn, 1) := by decide +kernel
theorem dX8_broke_64 : decode cX8_broke 64 = .ok (.iload_n 1, 1) := by decide +kernel
theorem dX8_broke_65 : decode cX8_broke 65 = .ok (.ifCond .ne 10, 3) := by decide +kernel
theorem dX8_broke_68 : decode cX8_broke 68 = .ok (.aload_n 0, 1) := by decide +kernel
theorem dX8_broke_69 : decode cX8_broke 69 = .ok (.getfield 259, 3) := by decide +kernel
theorem dX8_broke_72 : decode cX8_broke 72 = .ok (.goto 29, 3) := by decide +kernel
theorem dX8_broke_75 : decode cX8_broke 75 = .ok (.iload_n 1, 1) := by decide +kernel
theorem dX8_broke_76 : decode cX8_broke 76 = .ok (.iconst 1, 1) := by decide +kernel
theorem dX8_broke_77 : decode cX8_broke 77 = .ok (.if_icmp .ne 10, 3) := by decide +kernel
theorem dX8_broke_80 : decode cX8_broke 80 = .ok (.aload_n 0, 1) := by decide +kernel
theorem dX8_broke_81 : decode cX8_broke 81 = .ok (.getfield 112, 3) := by decide +kernel
theorem dX8_broke_84 : decode cX8_broke 84 = .ok (.goto 17, 3) := by decide +kernel
theorem dX8_broke_87 : decode cX8_broke 87 = .ok (.iload_n 1, 1) := by decide +kernel
theorem dX8_broke_88 : decode cX8_broke 88 = .ok (.iconst 2, 1) := by decide +kernel
theorem dX8_broke_89 : decode cX8_broke 89 = .ok (.if_icmp .ne 10, 3) := by decide +kernel
theorem dX8_broke_92 : decode cX8_broke 92 = .ok (.aload_n 0, 1) := by decide +kernel
theorem dX8_broke_93 : decode cX8_broke 93 = .ok (.getfield 262, 3) := by decide +kernel
theorem dX8_broke_96 : decode cX8_broke 96 = .ok (.goto 5, 3) := by decide +kernel
theorem dX8_broke_99 : decode cX8_broke 99 = .ok (.bipush (-9), 2) := by decide +kernel
theorem dX8_broke_101 : decode cX8_broke 101 = .ok (.ireturn, 1) := by decide +kernel
theorem dX8_run_0 : decode cX8_run 0 = .ok (.iload_n 2, 1) := by decide +kernel
theorem dX8_run_1 : decode cX8_run 1 = .ok (.iconst 0, 1) := by decide +kernel
theorem dX8_run_2 : decode cX8_run 2 = .ok (.bipush 9, 2) := by decide +kernel
theorem dX8_run_4 : decode cX8_run 4 = .ok (.invokestatic 115, 3) := by decide +kernel
theorem dX8_run_7 : decode cX8_run 7 = .ok (.ifCond .eq 7, 3) := by decide +kernel
theorem dX8_run_10 : decode cX8_run 10 = .ok (.iload_n 1, 1) := by decide +kernel
theorem dX8_run_11 : decode cX8_run 11 = .ok (.ifCond .ge 6, 3) := by decide +kernel
theorem dX8_run_14 : decode cX8_run 14 = .ok (.bipush (-2), 2) := by decide +kernel
theorem dX8_run_16 : decode cX8_run 16 = .ok (.ireturn, 1) := by decide +kernel
theorem dX8_run_17 : decode cX8_run 17 = .ok (.aload_n 0, 1) := by decide +kernel
theorem dX8_run_18 : decode cX8_run 18 = .ok (.getfield 109, 3) := by decide +kernel
theorem dX8_run_21 : decode cX8_run 21 = .ok (.ifCond .ge 6, 3) := by decide +kernel
theorem dX8_run_24 : decode cX8_run 24 = .ok (.bipush (-3), 2) := by decide +kernel
theorem dX8_run_26 : decode cX8_run 26 = .ok (.ireturn, 1) := by decide +kernel
theorem dX8_run_27 : decode cX8_run 27 = .ok (.aload_n 0, 1) := by decide +kernel
theorem dX8_run_28 : decode cX8_run 28 = .ok (.invokevirtual 281, 3) := by decide +kernel
theorem dX8_run_31 : decode cX8_run 31 = .ok (.iload_n 1, 1) := by decide +kernel
theorem dX8_run_32 : decode cX8_run 32 = .ok (.istore_n 3, 1) := by decide +kernel
theorem dX8_run_33 : decode cX8_run 33 = .ok (.iconst 0, 1) := by decide +kernel
theorem dX8_run_34 : decode cX8_run 34 = .ok (.istore 4, 2) := by decide +kernel
theorem dX8_run_36 : decode cX8_run 36 = .ok (.iload 4, 2) := by decide +kernel
theorem dX8_run_38 : decode cX8_run 38 = .ok (.iload_n 2, 1) := by decide +kernel
theorem dX8_run_39 : decode cX8_run 39 = .ok (.if_icmp .ge 62, 3) := by decide +kernel
theorem dX8_run_42 : decode cX8_run 42 = .ok (.iload_n 3, 1) := by decide +kernel
theorem dX8_run_43 : decode cX8_run 43 = .ok (.bipush 10, 2) := by decide +kernel
theorem dX8_run_45 : decode cX8_run 45 = .ok (.irem, 1) := by decide +kernel
theorem dX8_run_46 : decode cX8_run 46 = .ok (.istore 5, 2) := by decide +kernel
theorem dX8_run_48 : decode cX8_run 48 = .ok (.iload_n 3, 1) := by decide +kernel
theorem dX8_run_49 : decode cX8_run 49 = .ok (.bipush 10, 2) := by decide +kernel
theorem dX8_run_51 : decode cX8_run 51 = .ok (.idiv, 1) := by decide +kernel
theorem dX8_run_52 : decode cX8_run 52 = .ok (.istore_n 3, 1) := by decide +kernel
theorem dX8_run_53 : decode cX8_run 53 = .ok (.iload 5, 2) := by decide +kernel
theorem dX8_run_55 : decode cX8_run 55 = .ok (.aload_n 0, 1) := by decide +kernel
theorem dX8_run_56 : decode cX8_run 56 = .ok (.getfield 241, 3) := by decide +kernel
theorem dX8_run_59 : decode cX8_run 59 = .ok (.if_icmp .ge 20, 3) := by decide +kernel
theorem dX8_run_62 : decode cX8_run 62 = .ok (.aload_n 0, 1) := by decide +kernel
theorem dX8_run_63 : decode cX8_run 63 = .ok (.getfield 60, 3) := by decide +kernel
theorem dX8_run_66 : decode cX8_run 66 = .ok (.iload 5, 2) := by decide +kernel
theorem dX8_run_68 : decode cX8_run 68 = .ok (.iaload, 1) := by decide +kernel
theorem dX8_run_69 : decode cX8_run 69 = .ok (.aload_n 0, 1) := by decide +kernel
theorem dX8_run_70 : decode cX8_run 70 = .ok (.getfield 75, 3) := by decide +kernel
theorem dX8_run_73 : decode cX8_run 73 = .ok (.iload 4, 2) := by decide +kernel
theorem dX8_run_75 : decode cX8_run 75 = .ok (.iaload, 1) := by decide +kernel
theorem dX8_run_76 : decode cX8_run 76 = .ok (.if_icmp .eq 5, 3) := by decide +kernel
theorem dX8_run_79 : decode cX8_run 79 = .ok (.iconst (-1), 1) := by decide +kernel
theorem dX8_run_80 : decode cX8_run 80 = .ok (.ireturn, 1) := by decide +kernel
theorem dX8_run_81 : decode cX8_run 81 = .ok (.aload_n 0, 1) := by decide +kernel
theorem dX8_run_82 : decode cX8_run 82 = .ok (.iload 4, 2) := by decide +kernel
theorem dX8_run_84 : decode cX8_run 84 = .ok (.iload 5, 2) := by decide +kernel
theorem dX8_run_86 : decode cX8_run 86 = .ok (.invokevirtual 265, 3) := by decide +kernel
theorem dX8_run_89 : decode cX8_run 89 = .ok (.ifCond .ne 6, 3) := by decide +kernel
theorem dX8_run_92 : decode cX8_run 92 = .ok (.bipush (-9), 2) := by decide +kernel
theorem dX8_run_94 : decode cX8_run 94 = .ok (.ireturn, 1) := by decide +kernel
theorem dX8_run_95 : decode cX8_run 95 = .ok (.iinc 4 1, 3) := by decide +kernel
theorem dX8_run_98 : decode cX8_run 98 = .ok (.goto (-62), 3) := by decide +kernel
theorem dX8_run_101 : decode cX8_run 101 = .ok (.aload_n 0, 1) := by decide +kernel
theorem dX8_run_102 : decode cX8_run 102 = .ok (.getfield 75, 3) := by decide +kernel
theorem dX8_run_105 : decode cX8_run 105 = .ok (.iload_n 2, 1) := by decide +kernel
theorem dX8_run_106 : decode cX8_run 106 = .ok (.iaload, 1) := by decide +kernel
theorem dX8_run_107 : decode cX8_run 107 = .ok (.istore 4, 2) := by decide +kernel
theorem dX8_run_109 : decode cX8_run 109 = .ok (.aload_n 0, 1) := by decide +kernel
theorem dX8_run_110 : decode cX8_run 110 = .ok (.getfield 13, 3) := by decide +kernel
theorem dX8_run_113 : decode cX8_run 113 = .ok (.iload 4, 2) := by decide +kernel
theorem dX8_run_115 : decode cX8_run 115 = .ok (.iaload, 1) := by decide +kernel
theorem dX8_run_116 : decode cX8_run 116 = .ok (.bipush 40, 2) := by decide +kernel
theorem dX8_run_118 : decode cX8_run 118 = .ok (.if_icmp .ne 8, 3) := by decide +kernel
theorem dX8_run_121 : decode cX8_run 121 = .ok (.bipush (-4), 2) := by decide +kernel
theorem dX8_run_123 : decode cX8_run 123 = .ok (.goto 47, 3) := by decide +kernel
theorem dX8_run_126 : decode cX8_run 126 = .ok (.aload_n 0, 1) := by decide +kernel
theorem dX8_run_127 : decode cX8_run 127 = .ok (.iload 4, 2) := by decide +kernel
theorem dX8_run_129 : decode cX8_run 129 = .ok (.aload_n 0, 1) := by decide +kernel
theorem dX8_run_130 : decode cX8_run 130 = .ok (.getfield 78, 3) := by decide +kernel
theorem dX8_run_133 : decode cX8_run 133 = .ok (.iconst 4, 1) := by decide +kernel
theorem dX8_run_134 : decode cX8_run 134 = .ok (.iload_n 2, 1) := by decide +kernel
theorem dX8_run_135 : decode cX8_run 135 = .ok (.imul, 1) := by decide +kernel
theorem dX8_run_136 : decode cX8_run 136 = .ok (.iaload, 1) := by decide +kernel
theorem dX8_run_137 : decode cX8_run 137 = .ok (.aload_n 0, 1) := by decide +kernel
theorem dX8_run_138 : decode cX8_run 138 = .ok (.getfield 78, 3) := by decide +kernel
theorem dX8_run_141 : decode cX8_run 141 = .ok (.iconst 4, 1) := by decide +kernel
theorem dX8_run_142 : decode cX8_run 142 = .ok (.iload_n 2, 1) := by decide +kernel
theorem dX8_run_143 : decode cX8_run 143 = .ok (.imul, 1) := by decide +kernel
theorem dX8_run_144 : decode cX8_run 144 = .ok (.iconst 1, 1) := by decide +kernel
theorem dX8_run_145 : decode cX8_run 145 = .ok (.iadd, 1) := by decide +kernel
theorem dX8_run_146 : decode cX8_run 146 = .ok (.iaload, 1) := by decide +kernel
theorem dX8_run_147 : decode cX8_run 147 = .ok (.aload_n 0, 1) := by decide +kernel
theorem dX8_run_148 : decode cX8_run 148 = .ok (.getfield 78, 3) := by decide +kernel
theorem dX8_run_151 : decode cX8_run 151 = .ok (.iconst 4, 1) := by decide +kernel
theorem dX8_run_152 : decode cX8_run 152 = .ok (.iload_n 2, 1) := by decide +kernel
theorem dX8_run_153 : decode cX8_run 153 = .ok (.imul, 1) := by decide +kernel
theorem dX8_run_154 : decode cX8_run 154 = .ok (.iconst 2, 1) := by decide +kernel
theorem dX8_run_155 : decode cX8_run 155 = .ok (.iadd, 1) := by decide +kernel
theorem dX8_run_156 : decode cX8_run 156 = .ok (.iaload, 1) := by decide +kernel
theorem dX8_run_157 : decode cX8_run 157 = .ok (.aload_n 0, 1) := by decide +kernel
theorem dX8_run_158 : decode cX8_run 158 = .ok (.getfield 78, 3) := by decide +kernel
theorem dX8_run_161 : decode cX8_run 161 = .ok (.iconst 4, 1) := by decide +kernel
theorem dX8_run_162 : decode cX8_run 162 = .ok (.iload_n 2, 1) := by decide +kernel
theorem dX8_run_163 : decode cX8_run 163 = .ok (.imul, 1) := by decide +kernel
theorem dX8_run_164 : decode cX8_run 164 = .ok (.iconst 3, 1) := by decide +kernel
theorem dX8_run_165 : decode cX8_run 165 = .ok (.iadd, 1) := by decide +kernel
theorem dX8_run_166 : decode cX8_run 166 = .ok (.iaload, 1) := by decide +kernel
theorem dX8_run_167 : decode cX8_run 167 = .ok (.invokevirtual 203, 3) := by decide +kernel
theorem dX8_run_170 : decode cX8_run 170 = .ok (.ireturn, 1) := by decide +kernel
theorem dX8_told_0 : decode cX8_told 0 = .ok (.iload_n 1, 1) := by decide +kernel
theorem dX8_told_1 : decode cX8_told 1 = .ok (.ifCond .ne 10, 3) := by decide +kernel
theorem dX8_told_4 : decode cX8_told 4 = .ok (.aload_n 0, 1) := by decide +kernel
theorem dX8_told_5 : decode cX8_told 5 = .ok (.getfield 105, 3) := by decide +kernel
theorem dX8_told_8 : decode cX8_told 8 = .ok (.goto 49, 3) := by decide +kernel
theorem dX8_told_11 : decode cX8_told 11 = .ok (.iload_n 1, 1) := by decide +kernel
theorem dX8_told_12 : decode cX8_told 12 = .ok (.iconst 1, 1) := by decide +kernel
theorem dX8_told_13 : decode cX8_told 13 = .ok (.if_icmp .ne 10, 3) := by decide +kernel
theorem dX8_told_16 : decode cX8_told 16 = .ok (.aload_n 0, 1) := by decide +kernel
theorem dX8_told_17 : decode cX8_told 17 = .ok (.getfield 241, 3) := by decide +kernel
theorem dX8_told_20 : decode cX8_told 20 = .ok (.goto 37, 3) := by decide +kernel
theorem dX8_told_23 : decode cX8_told 23 = .ok (.iload_n 1, 1) := by decide +kernel
theorem dX8_told_24 : decode cX8_told 24 = .ok (.iconst 2, 1) := by decide +kernel
theorem dX8_told_25 : decode cX8_told 25 = .ok (.if_icmp .ne 18, 3) := by decide +kernel
theorem dX8_told_28 : decode cX8_told 28 = .ok (.aload_n 0, 1) := by decide +kernel
theorem dX8_told_29 : decode cX8_told 29 = .ok (.getfield 109, 3) := by decide +kernel
theorem dX8_told_32 : decode cX8_told 32 = .ok (.ifCond .ge 7, 3) := by decide +kernel
theorem dX8_told_35 : decode cX8_told 35 = .ok (.iconst 0, 1) := by decide +kernel
theorem dX8_told_36 : decode cX8_told 36 = .ok (.goto 21, 3) := by decide +kernel
theorem dX8_told_39 : decode cX8_told 39 = .ok (.iconst 1, 1) := by decide +kernel
theorem dX8_told_40 : decode cX8_told 40 = .ok (.goto 17, 3) := by decide +kernel
theorem dX8_told_43 : decode cX8_told 43 = .ok (.iload_n 1, 1) := by decide +kernel
theorem dX8_told_44 : decode cX8_told 44 = .ok (.iconst 3, 1) := by decide +kernel
theorem dX8_told_45 : decode cX8_told 45 = .ok (.if_icmp .ne 10, 3) := by decide +kernel
theorem dX8_told_48 : decode cX8_told 48 = .ok (.aload_n 0, 1) := by decide +kernel
theorem dX8_told_49 : decode cX8_told 49 = .ok (.getfield 197, 3) := by decide +kernel
theorem dX8_told_52 : decode cX8_told 52 = .ok (.goto 5, 3) := by decide +kernel
theorem dX8_told_55 : decode cX8_told 55 = .ok (.bipush (-2), 2) := by decide +kernel
theorem dX8_told_57 : decode cX8_told 57 = .ok (.ireturn, 1) := by decide +kernel
theorem dJ9_floorMod_7cf53_0 : decode cJ9_floorMod_7cf53 0 = .ok (.iload_n 0, 1) := by decide +kernel
theorem dJ9_floorMod_7cf53_1 : decode cJ9_floorMod_7cf53 1 = .ok (.iload_n 1, 1) := by decide +kernel
theorem dJ9_floorMod_7cf53_2 : decode cJ9_floorMod_7cf53 2 = .ok (.irem, 1) := by decide +kernel
theorem dJ9_floorMod_7cf53_3 : decode cJ9_floorMod_7cf53 3 = .ok (.istore_n 2, 1) := by decide +kernel
theorem dJ9_floorMod_7cf53_4 : decode cJ9_floorMod_7cf53 4 = .ok (.iload_n 0, 1) := by decide +kernel
theorem dJ9_floorMod_7cf53_5 : decode cJ9_floorMod_7cf53 5 = .ok (.iload_n 1, 1) := by decide +kernel
theorem dJ9_floorMod_7cf53_6 : decode cJ9_floorMod_7cf53 6 = .ok (.ixor, 1) := by decide +kernel
theorem dJ9_floorMod_7cf53_7 : decode cJ9_floorMod_7cf53 7 = .ok (.ifCond .ge 11, 3) := by decide +kernel
theorem dJ9_floorMod_7cf53_10 : decode cJ9_floorMod_7cf53 10 = .ok (.iload_n 2, 1) := by decide +kernel
theorem dJ9_floorMod_7cf53_11 : decode cJ9_floorMod_7cf53 11 = .ok (.ifCond .eq 7, 3) := by decide +kernel
theorem dJ9_floorMod_7cf53_14 : decode cJ9_floorMod_7cf53 14 = .ok (.iload_n 2, 1) := by decide +kernel
theorem dJ9_floorMod_7cf53_15 : decode cJ9_floorMod_7cf53 15 = .ok (.iload_n 1, 1) := by decide +kernel
theorem dJ9_floorMod_7cf53_16 : decode cJ9_floorMod_7cf53 16 = .ok (.iadd, 1) := by decide +kernel
theorem dJ9_floorMod_7cf53_17 : decode cJ9_floorMod_7cf53 17 = .ok (.ireturn, 1) := by decide +kernel
theorem dJ9_floorMod_7cf53_18 : decode cJ9_floorMod_7cf53 18 = .ok (.iload_n 2, 1) := by decide +kernel
theorem dJ9_floorMod_7cf53_19 : decode cJ9_floorMod_7cf53 19 = .ok (.ireturn, 1) := by decide +kernel
theorem dJ9_max_7cf53_0 : decode cJ9_max_7cf53 0 = .ok (.iload_n 0, 1) := by decide +kernel
theorem dJ9_max_7cf53_1 : decode cJ9_max_7cf53 1 = .ok (.iload_n 1, 1) := by decide +kernel
theorem dJ9_max_7cf53_2 : decode cJ9_max_7cf53 2 = .ok (.if_icmp .lt 7, 3) := by decide +kernel
theorem dJ9_max_7cf53_5 : decode cJ9_max_7cf53 5 = .ok (.iload_n 0, 1) := by decide +kernel
theorem dJ9_max_7cf53_6 : decode cJ9_max_7cf53 6 = .ok (.goto 4, 3) := by decide +kernel
theorem dJ9_max_7cf53_9 : decode cJ9_max_7cf53 9 = .ok (.iload_n 1, 1) := by decide +kernel
theorem dJ9_max_7cf53_10 : decode cJ9_max_7cf53 10 = .ok (.ireturn, 1) := by decide +kernel
theorem dJ9_min_7cf53_0 : decode cJ9_min_7cf53 0 = .ok (.iload_n 0, 1) := by decide +kernel
theorem dJ9_min_7cf53_1 : decode cJ9_min_7cf53 1 = .ok (.iload_n 1, 1) := by decide +kernel
theorem dJ9_min_7cf53_2 : decode cJ9_min_7cf53 2 = .ok (.if_icmp .gt 7, 3) := by decide +kernel
theorem dJ9_min_7cf53_5 : decode cJ9_min_7cf53 5 = .ok (.iload_n 0, 1) := by decide +kernel
theorem dJ9_min_7cf53_6 : decode cJ9_min_7cf53 6 = .ok (.goto 4, 3) := by decide +kernel
theorem dJ9_min_7cf53_9 : decode cJ9_min_7cf53 9 = .ok (.iload_n 1, 1) := by decide +kernel
theorem dJ9_min_7cf53_10 : decode cJ9_min_7cf53 10 = .ok (.ireturn, 1) := by decide +kernel
theorem dL_law_0 : decode cL_law 0 = .ok (.new 7, 3) := by decide +kernel
theorem dL_law_3 : decode cL_law 3 = .ok (.dup, 1) := by decide +kernel
theorem dL_law_4 : decode cL_law 4 = .ok (.invokespecial 9, 3) := by decide +kernel
theorem dL_law_7 : decode cL_law 7 = .ok (.astore_n 1, 1) := by decide +kernel
theorem dL_law_8 : decode cL_law 8 = .ok (.new 10, 3) := by decide +kernel
theorem dL_law_11 : decode cL_law 11 = .ok (.dup, 1) := by decide +kernel
theorem dL_law_12 : decode cL_law 12 = .ok (.invokespecial 12, 3) := by decide +kernel
theorem dL_law_15 : decode cL_law 15 = .ok (.astore_n 2, 1) := by decide +kernel
theorem dL_law_16 : decode cL_law 16 = .ok (.iconst 0, 1) := by decide +kernel
theorem dL_law_17 : decode cL_law 17 = .ok (.istore_n 3, 1) := by decide +kernel
theorem dL_law_18 : decode cL_law 18 = .ok (.iload_n 3, 1) := by decide +kernel
theorem dL_law_19 : decode cL_law 19 = .ok (.aload_n 0, 1) := by decide +kernel
theorem dL_law_20 : decode cL_law 20 = .ok (.arraylength, 1) := by decide +kernel
theorem dL_law_21 : decode cL_law 21 = .ok (.bipush 8, 2) := by decide +kernel
theorem dL_law_23 : decode cL_law 23 = .ok (.isub, 1) := by decide +kernel
theorem dL_law_24 : decode cL_law 24 = .ok (.if_icmp .gt 999, 3) := by decide +kernel
theorem dL_law_27 : decode cL_law 27 = .ok (.aload_n 0, 1) := by decide +kernel
theorem dL_law_28 : decode cL_law 28 = .ok (.iload_n 3, 1) := by decide +kernel
theorem dL_law_29 : decode cL_law 29 = .ok (.iaload, 1) := by decide +kernel
theorem dL_law_30 : decode cL_law 30 = .ok (.bipush 31, 2) := by decide +kernel
theorem dL_law_32 : decode cL_law 32 = .ok (.iand, 1) := by decide +kernel
theorem dL_law_33 : decode cL_law 33 = .ok (.tableswitch 984 0 21 #[103, 126, 169, 232, 255, 298, 331, 394, 457, 490, 533, 566, 620, 683, 716, 803, 846, 859, 882, 905, 938, 961], 103) := by decide +kernel
theorem dL_law_136 : decode cL_law 136 = .ok (.aload_n 1, 1) := by decide +kernel
