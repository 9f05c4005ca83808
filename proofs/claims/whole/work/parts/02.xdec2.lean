theorem dX5_init_0 : decode cX5_init 0 = .ok (.aload_n 0, 1) := by decide +kernel
theorem dX5_init_1 : decode cX5_init 1 = .ok (.invokespecial 1, 3) := by decide +kernel
theorem dX5_init_4 : decode cX5_init 4 = .ok (.aload_n 0, 1) := by decide +kernel
theorem dX5_init_5 : decode cX5_init 5 = .ok (.sipush 6002, 3) := by decide +kernel
theorem dX5_init_8 : decode cX5_init 8 = .ok (.newarray .boolean, 2) := by decide +kernel
theorem dX5_init_10 : decode cX5_init 10 = .ok (.putfield 7, 3) := by decide +kernel
theorem dX5_init_13 : decode cX5_init 13 = .ok (.aload_n 0, 1) := by decide +kernel
theorem dX5_init_14 : decode cX5_init 14 = .ok (.iconst 2, 1) := by decide +kernel
theorem dX5_init_15 : decode cX5_init 15 = .ok (.newarray .int, 2) := by decide +kernel
theorem dX5_init_17 : decode cX5_init 17 = .ok (.putfield 13, 3) := by decide +kernel
theorem dX5_init_20 : decode cX5_init 20 = .ok (.aload_n 0, 1) := by decide +kernel
theorem dX5_init_21 : decode cX5_init 21 = .ok (.sipush 3001, 3) := by decide +kernel
theorem dX5_init_24 : decode cX5_init 24 = .ok (.newarray .boolean, 2) := by decide +kernel
theorem dX5_init_26 : decode cX5_init 26 = .ok (.putfield 17, 3) := by decide +kernel
theorem dX5_init_29 : decode cX5_init 29 = .ok (.aload_n 0, 1) := by decide +kernel
theorem dX5_init_30 : decode cX5_init 30 = .ok (.sipush 3001, 3) := by decide +kernel
theorem dX5_init_33 : decode cX5_init 33 = .ok (.newarray .int, 2) := by decide +kernel
theorem dX5_init_35 : decode cX5_init 35 = .ok (.putfield 20, 3) := by decide +kernel
theorem dX5_init_38 : decode cX5_init 38 = .ok (.aload_n 0, 1) := by decide +kernel
theorem dX5_init_39 : decode cX5_init 39 = .ok (.bipush 10, 2) := by decide +kernel
theorem dX5_init_41 : decode cX5_init 41 = .ok (.newarray .int, 2) := by decide +kernel
theorem dX5_init_43 : decode cX5_init 43 = .ok (.putfield 23, 3) := by decide +kernel
theorem dX5_init_46 : decode cX5_init 46 = .ok (.aload_n 0, 1) := by decide +kernel
theorem dX5_init_47 : decode cX5_init 47 = .ok (.bipush 10, 2) := by decide +kernel
theorem dX5_init_49 : decode cX5_init 49 = .ok (.newarray .int, 2) := by decide +kernel
theorem dX5_init_51 : decode cX5_init 51 = .ok (.putfield 26, 3) := by decide +kernel
theorem dX5_init_54 : decode cX5_init 54 = .ok (.aload_n 0, 1) := by decide +kernel
theorem dX5_init_55 : decode cX5_init 55 = .ok (.bipush 10, 2) := by decide +kernel
theorem dX5_init_57 : decode cX5_init 57 = .ok (.newarray .boolean, 2) := by decide +kernel
theorem dX5_init_59 : decode cX5_init 59 = .ok (.putfield 29, 3) := by decide +kernel
theorem dX5_init_62 : decode cX5_init 62 = .ok (.aload_n 0, 1) := by decide +kernel
theorem dX5_init_63 : decode cX5_init 63 = .ok (.bipush 10, 2) := by decide +kernel
theorem dX5_init_65 : decode cX5_init 65 = .ok (.newarray .int, 2) := by decide +kernel
theorem dX5_init_67 : decode cX5_init 67 = .ok (.putfield 32, 3) := by decide +kernel
theorem dX5_init_70 : decode cX5_init 70 = .ok (.aload_n 0, 1) := by decide +kernel
theorem dX5_init_71 : decode cX5_init 71 = .ok (.bipush 10, 2) := by decide +kernel
theorem dX5_init_73 : decode cX5_init 73 = .ok (.newarray .int, 2) := by decide +kernel
theorem dX5_init_75 : decode cX5_init 75 = .ok (.putfield 35, 3) := by decide +kernel
theorem dX5_init_78 : decode cX5_init 78 = .ok (.aload_n 0, 1) := by decide +kernel
theorem dX5_init_79 : decode cX5_init 79 = .ok (.bipush 10, 2) := by decide +kernel
theorem dX5_init_81 : decode cX5_init 81 = .ok (.newarray .int, 2) := by decide +kernel
theorem dX5_init_83 : decode cX5_init 83 = .ok (.putfield 38, 3) := by decide +kernel
theorem dX5_init_86 : decode cX5_init 86 = .ok (.aload_n 0, 1) := by decide +kernel
theorem dX5_init_87 : decode cX5_init 87 = .ok (.bipush 10, 2) := by decide +kernel
theorem dX5_init_89 : decode cX5_init 89 = .ok (.newarray .int, 2) := by decide +kernel
theorem dX5_init_91 : decode cX5_init 91 = .ok (.putfield 41, 3) := by decide +kernel
theorem dX5_init_94 : decode cX5_init 94 = .ok (.aload_n 0, 1) := by decide +kernel
theorem dX5_init_95 : decode cX5_init 95 = .ok (.bipush 10, 2) := by decide +kernel
theorem dX5_init_97 : decode cX5_init 97 = .ok (.newarray .int, 2) := by decide +kernel
theorem dX5_init_99 : decode cX5_init 99 = .ok (.putfield 44, 3) := by decide +kernel
theorem dX5_init_102 : decode cX5_init 102 = .ok (.aload_n 0, 1) := by decide +kernel
theorem dX5_init_103 : decode cX5_init 103 = .ok (.bipush 10, 2) := by decide +kernel
theorem dX5_init_105 : decode cX5_init 105 = .ok (.newarray .int, 2) := by decide +kernel
theorem dX5_init_107 : decode cX5_init 107 = .ok (.putfield 47, 3) := by decide +kernel
theorem dX5_init_110 : decode cX5_init 110 = .ok (.aload_n 0, 1) := by decide +kernel
theorem dX5_init_111 : decode cX5_init 111 = .ok (.bipush 10, 2) := by decide +kernel
theorem dX5_init_113 : decode cX5_init 113 = .ok (.newarray .int, 2) := by decide +kernel
theorem dX5_init_115 : decode cX5_init 115 = .ok (.putfield 50, 3) := by decide +kernel
theorem dX5_init_118 : decode cX5_init 118 = .ok (.aload_n 0, 1) := by decide +kernel
theorem dX5_init_119 : decode cX5_init 119 = .ok (.sipush 10000, 3) := by decide +kernel
theorem dX5_init_122 : decode cX5_init 122 = .ok (.newarray .int, 2) := by decide +kernel
theorem dX5_init_124 : decode cX5_init 124 = .ok (.putfield 53, 3) := by decide +kernel
theorem dX5_init_127 : decode cX5_init 127 = .ok (.aload_n 0, 1) := by decide +kernel
theorem dX5_init_128 : decode cX5_init 128 = .ok (.sipush 10000, 3) := by decide +kernel
theorem dX5_init_131 : decode cX5_init 131 = .ok (.newarray .int, 2) := by decide +kernel
theorem dX5_init_133 : decode cX5_init 133 = .ok (.putfield 56, 3) := by decide +kernel
theorem dX5_init_136 : decode cX5_init 136 = .ok (.aload_n 0, 1) := by decide +kernel
theorem dX5_init_137 : decode cX5_init 137 = .ok (.sipush 10000, 3) := by decide +kernel
theorem dX5_init_140 : decode cX5_init 140 = .ok (.newarray .int, 2) := by decide +kernel
theorem dX5_init_142 : decode cX5_init 142 = .ok (.putfield 59, 3) := by decide +kernel
theorem dX5_init_145 : decode cX5_init 145 = .ok (.aload_n 0, 1) := by decide +kernel
theorem dX5_init_146 : decode cX5_init 146 = .ok (.bipush 10, 2) := by decide +kernel
theorem dX5_init_148 : decode cX5_init 148 = .ok (.newarray .int, 2) := by decide +kernel
theorem dX5_init_150 : decode cX5_init 150 = .ok (.putfield 62, 3) := by decide +kernel
theorem dX5_init_153 : decode cX5_init 153 = .ok (.aload_n 0, 1) := by decide +kernel
theorem dX5_init_154 : decode cX5_init 154 = .ok (.bipush 100, 2) := by decide +kernel
theorem dX5_init_156 : decode cX5_init 156 = .ok (.newarray .int, 2) := by decide +kernel
theorem dX5_init_158 : decode cX5_init 158 = .ok (.putfield 65, 3) := by decide +kernel
theorem dX5_init_161 : decode cX5_init 161 = .ok (.aload_n 0, 1) := by decide +kernel
theorem dX5_init_162 : decode cX5_init 162 = .ok (.bipush 100, 2) := by decide +kernel
theorem dX5_init_164 : decode cX5_init 164 = .ok (.newarray .int, 2) := by decide +kernel
theorem dX5_init_166 : decode cX5_init 166 = .ok (.putfield 68, 3) := by decide +kernel
theorem dX5_init_169 : decode cX5_init 169 = .ok (.aload_n 0, 1) := by decide +kernel
theorem dX5_init_170 : decode cX5_init 170 = .ok (.iconst 0, 1) := by decide +kernel
theorem dX5_init_171 : decode cX5_init 171 = .ok (.putfield 71, 3) := by decide +kernel
theorem dX5_init_174 : decode cX5_init 174 = .ok (.return_, 1) := by decide +kernel
theorem dX5_thrown_0 : decode cX5_thrown 0 = .ok (.aload_n 0, 1) := by decide +kernel
theorem dX5_thrown_1 : decode cX5_thrown 1 = .ok (.getfield 71, 3) := by decide +kernel
theorem dX5_thrown_4 : decode cX5_thrown 4 = .ok (.ireturn, 1) := by decide +kernel
theorem dX5_fails_0 : decode cX5_fails 0 = .ok (.aload_n 0, 1) := by decide +kernel
theorem dX5_fails_1 : decode cX5_fails 1 = .ok (.iload_n 1, 1) := by decide +kernel
theorem dX5_fails_2 : decode cX5_fails 2 = .ok (.putfield 71, 3) := by decide +kernel
theorem dX5_fails_5 : decode cX5_fails 5 = .ok (.iconst 0, 1) := by decide +kernel
theorem dX5_fails_6 : decode cX5_fails 6 = .ok (.ireturn, 1) := by decide +kernel
theorem dX5_in_0 : decode cX5_in 0 = .ok (.iload_n 0, 1) := by decide +kernel
theorem dX5_in_1 : decode cX5_in 1 = .ok (.iload_n 1, 1) := by decide +kernel
theorem dX5_in_2 : decode cX5_in 2 = .ok (.if_icmp .lt 12, 3) := by decide +kernel
theorem dX5_in_5 : decode cX5_in 5 = .ok (.iload_n 0, 1) := by decide +kernel
theorem dX5_in_6 : decode cX5_in 6 = .ok (.iload_n 2, 1) := by decide +kernel
theorem dX5_in_7 : decode cX5_in 7 = .ok (.if_icmp .gt 7, 3) := by decide +kernel
theorem dX5_in_10 : decode cX5_in 10 = .ok (.iconst 1, 1) := by decide +kernel
theorem dX5_in_11 : decode cX5_in 11 = .ok (.goto 4, 3) := by decide +kernel
theorem dX5_in_14 : decode cX5_in 14 = .ok (.iconst 0, 1) := by decide +kernel
theorem dX5_in_15 : decode cX5_in 15 = .ok (.ireturn, 1) := by decide +kernel
theorem dX5_isDay_0 : decode cX5_isDay 0 = .ok (.iload_n 0, 1) := by decide +kernel
theorem dX5_isDay_1 : decode cX5_isDay 1 = .ok (.iconst 0, 1) := by decide +kernel
theorem dX5_isDay_2 : decode cX5_isDay 2 = .ok (.sipush 3000, 3) := by decide +kernel
theorem dX5_isDay_5 : decode cX5_isDay 5 = .ok (.invokestatic 75, 3) := by decide +kernel
theorem dX5_isDay_8 : decode cX5_isDay 8 = .ok (.ireturn, 1) := by decide +kernel
theorem dX5_isParty_0 : decode cX5_isParty 0 = .ok (.iload_n 0, 1) := by decide +kernel
theorem dX5_isParty_1 : decode cX5_isParty 1 = .ok (.iconst 0, 1) := by decide +kernel
theorem dX5_isParty_2 : decode cX5_isParty 2 = .ok (.iconst 3, 1) := by decide +kernel
theorem dX5_isParty_3 : decode cX5_isParty 3 = .ok (.invokestatic 75, 3) := by decide +kernel
theorem dX5_isParty_6 : decode cX5_isParty 6 = .ok (.ireturn, 1) := by decide +kernel
theorem dX5_isTrade_0 : decode cX5_isTrade 0 = .ok (.iload_n 1, 1) := by decide +kernel
theorem dX5_isTrade_1 : decode cX5_isTrade 1 = .ok (.iconst 0, 1) := by decide +kernel
theorem dX5_isTrade_2 : decode cX5_isTrade 2 = .ok (.aload_n 0, 1) := by decide +kernel
theorem dX5_isTrade_3 : decode cX5_isTrade 3 = .ok (.getfield 79, 3) := by decide +kernel
theorem dX5_isTrade_6 : decode cX5_isTrade 6 = .ok (.iconst 1, 1) := by decide +kernel
theorem dX5_isTrade_7 : decode cX5_isTrade 7 = .ok (.isub, 1) := by decide +kernel
theorem dX5_isTrade_8 : decode cX5_isTrade 8 = .ok (.invokestatic 75, 3) := by decide +kernel
theorem dX5_isTrade_11 : decode cX5_isTrade 11 = .ok (.ireturn, 1) := by decide +kernel
theorem dX5_isPeriod_0 : decode cX5_isPeriod 0 = .ok (.aload_n 0, 1) := by decide +kernel
theorem dX5_isPeriod_1 : decode cX5_isPeriod 1 = .ok (.aload_n 0, 1) := by decide +kernel
theorem dX5_isPeriod_2 : decode cX5_isPeriod 2 = .ok (.iload_n 1, 1) := by decide +kernel
theorem dX5_isPeriod_3 : decode cX5_isPeriod 3 = .ok (.invokevirtual 82, 3) := by decide +kernel
theorem dX5_isPeriod_6 : decode cX5_isPeriod 6 = .ok (.ifCond .eq 23, 3) := by decide +kernel
theorem dX5_isPeriod_9 : decode cX5_isPeriod 9 = .ok (.iload_n 2, 1) := by decide +kernel
theorem dX5_isPeriod_10 : decode cX5_isPeriod 10 = .ok (.iconst 0, 1) := by decide +kernel
theorem dX5_isPeriod_11 : decode cX5_isPeriod 11 = .ok (.aload_n 0, 1) := by decide +kernel
theorem dX5_isPeriod_12 : decode cX5_isPeriod 12 = .ok (.getfield 41, 3) := by decide +kernel
theorem dX5_isPeriod_15 : decode cX5_isPeriod 15 = .ok (.iload_n 1, 1) := by decide +kernel
theorem dX5_isPeriod_16 : decode cX5_isPeriod 16 = .ok (.iaload, 1) := by decide +kernel
theorem dX5_isPeriod_17 : decode cX5_isPeriod 17 = .ok (.iconst 1, 1) := by decide +kernel
theorem dX5_isPeriod_18 : decode cX5_isPeriod 18 = .ok (.isub, 1) := by decide +kernel
theorem dX5_isPeriod_19 : decode cX5_isPeriod 19 = .ok (.invokestatic 75, 3) := by decide +kernel
theorem dX5_isPeriod_22 : decode cX5_isPeriod 22 = .ok (.ifCond .eq 7, 3) := by decide +kernel
theorem dX5_isPeriod_25 : decode cX5_isPeriod 25 = .ok (.iconst 0, 1) := by decide +kernel
theorem dX5_isPeriod_26 : decode cX5_isPeriod 26 = .ok (.goto 4, 3) := by decide +kernel
theorem dX5_isPeriod_29 : decode cX5_isPeriod 29 = .ok (.iconst 1, 1) := by decide +kernel
theorem dX5_isPeriod_30 : decode cX5_isPeriod 30 = .ok (.putfield 71, 3) := by decide +kernel
theorem dX5_isPeriod_33 : decode cX5_isPeriod 33 = .ok (.aload_n 0, 1) := by decide +kernel
theorem dX5_isPeriod_34 : decode cX5_isPeriod 34 = .ok (.getfield 71, 3) := by decide +kernel
theorem dX5_isPeriod_37 : decode cX5_isPeriod 37 = .ok (.ifCond .ne 7, 3) := by decide +kernel
theorem dX5_isPeriod_40 : decode cX5_isPeriod 40 = .ok (.iconst 1, 1) := by decide +kernel
theorem dX5_isPeriod_41 : decode cX5_isPeriod 41 = .ok (.goto 4, 3) := by decide +kernel
theorem dX5_isPeriod_44 : decode cX5_isPeriod 44 = .ok (.iconst 0, 1) := by decide +kernel
theorem dX5_isPeriod_45 : decode cX5_isPeriod 45 = .ok (.ireturn, 1) := by decide +kernel
theorem dX5_opens_0 : decode cX5_opens 0 = .ok (.iload_n 1, 1) := by decide +kernel
theorem dX5_opens_1 : decode cX5_opens 1 = .ok (.bipush 7, 2) := by decide +kernel
theorem dX5_opens_3 : decode cX5_opens 3 = .ok (.irem, 1) := by decide +kernel
theorem dX5_opens_4 : decode cX5_opens 4 = .ok (.iconst 5, 1) := by decide +kernel
theorem dX5_opens_5 : decode cX5_opens 5 = .ok (.if_icmp .ge 36, 3) := by decide +kernel
theorem dX5_opens_8 : decode cX5_opens 8 = .ok (.iload_n 1, 1) := by decide +kernel
theorem dX5_opens_9 : decode cX5_opens 9 = .ok (.sipush 3001, 3) := by decide +kernel
theorem dX5_opens_12 : decode cX5_opens 12 = .ok (.if_icmp .ge 25, 3) := by decide +kernel
theorem dX5_opens_15 : decode cX5_opens 15 = .ok (.aload_n 0, 1) := by decide +kernel
theorem dX5_opens_16 : decode cX5_opens 16 = .ok (.getfield 7, 3) := by decide +kernel
theorem dX5_opens_19 : decode cX5_opens 19 = .ok (.iload_n 1, 1) := by decide +kernel
theorem dX5_opens_20 : decode cX5_opens 20 = .ok (.baload, 1) := by decide +kernel
theorem dX5_opens_21 : decode cX5_opens 21 = .ok (.ifCond .ne 20, 3) := by decide +kernel
theorem dX5_opens_24 : decode cX5_opens 24 = .ok (.aload_n 0, 1) := by decide +kernel
theorem dX5_opens_25 : decode cX5_opens 25 = .ok (.getfield 7, 3) := by decide +kernel
theorem dX5_opens_28 : decode cX5_opens 28 = .ok (.sipush 3001, 3) := by decide +kernel
theorem dX5_opens_31 : decode cX5_opens 31 = .ok (.iload_n 1, 1) := by decide +kernel
theorem dX5_opens_32 : decode cX5_opens 32 = .ok (.iadd, 1) := by decide +kernel
theorem dX5_opens_33 : decode cX5_opens 33 = .ok (.baload, 1) := by decide +kernel
theorem dX5_opens_34 : decode cX5_opens 34 = .ok (.ifCond .ne 7, 3) := by decide +kernel
theorem dX5_opens_37 : decode cX5_opens 37 = .ok (.iconst 1, 1) := by decide +kernel
theorem dX5_opens_38 : decode cX5_opens 38 = .ok (.goto 4, 3) := by decide +kernel
theorem dX5_opens_41 : decode cX5_opens 41 = .ok (.iconst 0, 1) := by decide +kernel
theorem dX5_opens_42 : decode cX5_opens 42 = .ok (.ireturn, 1) := by decide +kernel
theorem dX5_rolled_0 : decode cX5_rolled 0 = .ok (.iload_n 1, 1) := by decide +kernel
theorem dX5_rolled_1 : decode cX5_rolled 1 = .ok (.istore_n 2, 1) := by decide +kernel
theorem dX5_rolled_2 : decode cX5_rolled 2 = .ok (.aload_n 0, 1) := by decide +kernel
theorem dX5_rolled_3 : decode cX5_rolled 3 = .ok (.iload_n 2, 1) := by decide +kernel
theorem dX5_rolled_4 : decode cX5_rolled 4 = .ok (.invokevirtual 86, 3) := by decide +kernel
theorem dX5_rolled_7 : decode cX5_rolled 7 = .ok (.ifCond .ne 9, 3) := by decide +kernel
theorem dX5_rolled_10 : decode cX5_rolled 10 = .ok (.iinc 2 1, 3) := by decide +kernel
theorem dX5_rolled_13 : decode cX5_rolled 13 = .ok (.goto (-11), 3) := by decide +kernel
theorem dX5_rolled_16 : decode cX5_rolled 16 = .ok (.iload_n 2, 1) := by decide +kernel
theorem dX5_rolled_17 : decode cX5_rolled 17 = .ok (.ireturn, 1) := by decide +kernel
theorem dX5_rate_0 : decode cX5_rate 0 = .ok (.iload_n 1, 1) := by decide +kernel
theorem dX5_rate_1 : decode cX5_rate 1 = .ok (.sipush 3001, 3) := by decide +kernel
theorem dX5_rate_4 : decode cX5_rate 4 = .ok (.if_icmp .ge 7, 3) := by decide +kernel
theorem dX5_rate_7 : decode cX5_rate 7 = .ok (.iload_n 1, 1) := by decide +kernel
theorem dX5_rate_8 : decode cX5_rate 8 = .ok (.goto 6, 3) := by decide +kernel
theorem dX5_rate_11 : decode cX5_rate 11 = .ok (.sipush 3000, 3) := by decide +kernel
theorem dX5_rate_14 : decode cX5_rate 14 = .ok (.istore_n 2, 1) := by decide +kernel
theorem dX5_rate_15 : decode cX5_rate 15 = .ok (.iload_n 2, 1) := by decide +kernel
theorem dX5_rate_16 : decode cX5_rate 16 = .ok (.ifCond .lt 18, 3) := by decide +kernel
theorem dX5_rate_19 : decode cX5_rate 19 = .ok (.aload_n 0, 1) := by decide +kernel
theorem dX5_rate_20 : decode cX5_rate 20 = .ok (.getfield 17, 3) := by decide +kernel
theorem dX5_rate_23 : decode cX5_rate 23 = .ok (.iload_n 2, 1) := by decide +kernel
theorem dX5_rate_24 : decode cX5_rate 24 = .ok (.baload, 1) := by decide +kernel
theorem dX5_rate_25 : decode cX5_rate 25 = .ok (.ifCond .ne 9, 3) := by decide +kernel
theorem dX5_rate_28 : decode cX5_rate 28 = .ok (.iinc 2 (-1), 3) := by decide +kernel
theorem dX5_rate_31 : decode cX5_rate 31 = .ok (.goto (-16), 3) := by decide +kernel
theorem dX5_rate_34 : decode cX5_rate 34 = .ok (.iload_n 2, 1) := by decide +kernel
theorem dX5_rate_35 : decode cX5_rate 35 = .ok (.ifCond .ge 7, 3) := by decide +kernel
theorem dX5_rate_38 : decode cX5_rate 38 = .ok (.iconst 0, 1) := by decide +kernel
theorem dX5_rate_39 : decode cX5_rate 39 = .ok (.goto 9, 3) := by decide +kernel
theorem dX5_rate_42 : decode cX5_rate 42 = .ok (.aload_n 0, 1) := by decide +kernel
theorem dX5_rate_43 : decode cX5_rate 43 = .ok (.getfield 20, 3) := by decide +kernel
theorem dX5_rate_46 : decode cX5_rate 46 = .ok (.iload_n 2, 1) := by decide +kernel
theorem dX5_rate_47 : decode cX5_rate 47 = .ok (.iaload, 1) := by decide +kernel
theorem dX5_rate_48 : decode cX5_rate 48 = .ok (.ireturn, 1) := by decide +kernel
theorem dX5_holiday_0 : decode cX5_holiday 0 = .ok (.aload_n 0, 1) := by decide +kernel
theorem dX5_holiday_1 : decode cX5_holiday 1 = .ok (.iload_n 1, 1) := by decide +kernel
theorem dX5_holiday_2 : decode cX5_holiday 2 = .ok (.iconst 0, 1) := by decide +kernel
theorem dX5_holiday_3 : decode cX5_holiday 3 = .ok (.iconst 1, 1) := by decide +kernel
theorem dX5_holiday_4 : decode cX5_holiday 4 = .ok (.invokestatic 75, 3) := by decide +kernel
theorem dX5_holiday_7 : decode cX5_holiday 7 = .ok (.ifCond .ne 7, 3) := by decide +kernel
theorem dX5_holiday_10 : decode cX5_holiday 10 = .ok (.iconst 1, 1) := by decide +kernel
theorem dX5_holiday_11 : decode cX5_holiday 11 = .ok (.goto 45, 3) := by decide +kernel
theorem dX5_holiday_14 : decode cX5_holiday 14 = .ok (.iload_n 2, 1) := by decide +kernel
theorem dX5_holiday_15 : decode cX5_holiday 15 = .ok (.invokestatic 89, 3) := by decide +kernel
theorem dX5_holiday_18 : decode cX5_holiday 18 = .ok (.ifCond .ne 7, 3) := by decide +kernel
theorem dX5_holiday_21 : decode cX5_holiday 21 = .ok (.iconst 2, 1) := by decide +kernel
theorem dX5_holiday_22 : decode cX5_holiday 22 = .ok (.goto 34, 3) := by decide +kernel
theorem dX5_holiday_25 : decode cX5_holiday 25 = .ok (.aload_n 0, 1) := by decide +kernel
theorem dX5_holiday_26 : decode cX5_holiday 26 = .ok (.getfield 7, 3) := by decide +kernel
theorem dX5_holiday_29 : decode cX5_holiday 29 = .ok (.sipush 3001, 3) := by decide +kernel
theorem dX5_holiday_32 : decode cX5_holiday 32 = .ok (.iload_n 1, 1) := by decide +kernel
theorem dX5_holiday_33 : decode cX5_holiday 33 = .ok (.imul, 1) := by decide +kernel
theorem dX5_holiday_34 : decode cX5_holiday 34 = .ok (.iload_n 2, 1) := by decide +kernel
theorem dX5_holiday_35 : decode cX5_holiday 35 = .ok (.iadd, 1) := by decide +kernel
theorem dX5_holiday_36 : decode cX5_holiday 36 = .ok (.baload, 1) := by decide +kernel
theorem dX5_holiday_37 : decode cX5_holiday 37 = .ok (.ifCond .ne 14, 3) := by decide +kernel
theorem dX5_holiday_40 : decode cX5_holiday 40 = .ok (.aload_n 0, 1) := by decide +kernel
theorem dX5_holiday_41 : decode cX5_holiday 41 = .ok (.getfield 13, 3) := by decide +kernel
theorem dX5_holiday_44 : decode cX5_holiday 44 = .ok (.iload_n 1, 1) := by decide +kernel
theorem dX5_holiday_45 : decode cX5_holiday 45 = .ok (.iaload, 1) := by decide +kernel
theorem dX5_holiday_46 : decode cX5_holiday 46 = .ok (.bipush 20, 2) := by decide +kernel
theorem dX5_holiday_48 : decode cX5_holiday 48 = .ok (.if_icmp .ne 7, 3) := by decide +kernel
theorem dX5_holiday_51 : decode cX5_holiday 51 = .ok (.iconst 3, 1) := by decide +kernel
theorem dX5_holiday_52 : decode cX5_holiday 52 = .ok (.goto 4, 3) := by decide +kernel
theorem dX5_holiday_55 : decode cX5_holiday 55 = .ok (.iconst 0, 1) := by decide +kernel
theorem dX5_holiday_56 : decode cX5_holiday 56 = .ok (.putfield 71, 3) := by decide +kernel
theorem dX5_holiday_59 : decode cX5_holiday 59 = .ok (.aload_n 0, 1) := by decide +kernel
theorem dX5_holiday_60 : decode cX5_holiday 60 = .ok (.getfield 71, 3) := by decide +kernel
theorem dX5_holiday_63 : decode cX5_holiday 63 = .ok (.ifCond .le 5, 3) := by decide +kernel
theorem dX5_holiday_66 : decode cX5_holiday 66 = .ok (.iconst 0, 1) := by decide +kernel
theorem dX5_holiday_67 : decode cX5_holiday 67 = .ok (.ireturn, 1) := by decide +kernel
theorem dX5_holiday_68 : decode cX5_holiday 68 = .ok (.aload_n 0, 1) := by decide +kernel
theorem dX5_holiday_69 : decode cX5_holiday 69 = .ok (.getfield 7, 3) := by decide +kernel
theorem dX5_holiday_72 : decode cX5_holiday 72 = .ok (.sipush 3001, 3) := by decide +kernel
theorem dX5_holiday_75 : decode cX5_holiday 75 = .ok (.iload_n 1, 1) := by decide +kernel
theorem dX5_holiday_76 : decode cX5_holiday 76 = .ok (.imul, 1) := by decide +kernel
theorem dX5_holiday_77 : decode cX5_holiday 77 = .ok (.iload_n 2, 1) := by decide +kernel
theorem dX5_holiday_78 : decode cX5_holiday 78 = .ok (.iadd, 1) := by decide +kernel
theorem dX5_holiday_79 : decode cX5_holiday 79 = .ok (.iconst 1, 1) := by decide +kernel
theorem dX5_holiday_80 : decode cX5_holiday 80 = .ok (.bastore, 1) := by decide +kernel
theorem dX5_holiday_81 : decode cX5_holiday 81 = .ok (.aload_n 0, 1) := by decide +kernel
theorem dX5_holiday_82 : decode cX5_holiday 82 = .ok (.getfield 13, 3) := by decide +kernel
theorem dX5_holiday_85 : decode cX5_holiday 85 = .ok (.iload_n 1, 1) := by decide +kernel
theorem dX5_holiday_86 : decode cX5_holiday 86 = .ok (.dup2, 1) := by decide +kernel
theorem dX5_holiday_87 : decode cX5_holiday 87 = .ok (.iaload, 1) := by decide +kernel
theorem dX5_holiday_88 : decode cX5_holiday 88 = .ok (.iconst 1, 1) := by decide +kernel
theorem dX5_holiday_89 : decode cX5_holiday 89 = .ok (.iadd, 1) := by decide +kernel
theorem dX5_holiday_90 : decode cX5_holiday 90 = .ok (.iastore, 1) := by decide +kernel
theorem dX5_holiday_91 : decode cX5_holiday 91 = .ok (.aload_n 0, 1) := by decide +kernel
theorem dX5_holiday_92 : decode cX5_holiday 92 = .ok (.getfield 13, 3) := by decide +kernel
theorem dX5_holiday_95 : decode cX5_holiday 95 = .ok (.iload_n 1, 1) := by decide +kernel
theorem dX5_holiday_96 : decode cX5_holiday 96 = .ok (.iaload, 1) := by decide +kernel
theorem dX5_holiday_97 : decode cX5_holiday 97 = .ok (.ireturn, 1) := by decide +kernel
theorem dX5_isOpen_0 : decode cX5_isOpen 0 = .ok (.aload_n 0, 1) := by decide +kernel
theorem dX5_isOpen_1 : decode cX5_isOpen 1 = .ok (.iload_n 1, 1) := by decide +kernel
theorem dX5_isOpen_2 : decode cX5_isOpen 2 = .ok (.invokestatic 89, 3) := by decide +kernel
theorem dX5_isOpen_5 : decode cX5_isOpen 5 = .ok (.ifCond .eq 7, 3) := by decide +kernel
theorem dX5_isOpen_8 : decode cX5_isOpen 8 = .ok (.iconst 0, 1) := by decide +kernel
theorem dX5_isOpen_9 : decode cX5_isOpen 9 = .ok (.goto 4, 3) := by decide +kernel
theorem dX5_isOpen_12 : decode cX5_isOpen 12 = .ok (.iconst 1, 1) := by decide +kernel
theorem dX5_isOpen_13 : decode cX5_isOpen 13 = .ok (.putfield 71, 3) := by decide +kernel
theorem dX5_isOpen_16 : decode cX5_isOpen 16 = .ok (.aload_n 0, 1) := by decide +kernel
theorem dX5_isOpen_17 : decode cX5_isOpen 17 = .ok (.getfield 71, 3) := by decide +kernel
theorem dX5_isOpen_20 : decode cX5_isOpen 20 = .ok (.ifCond .ne 15, 3) := by decide +kernel
theorem dX5_isOpen_23 : decode cX5_isOpen 23 = .ok (.aload_n 0, 1) := by decide +kernel
theorem dX5_isOpen_24 : decode cX5_isOpen 24 = .ok (.iload_n 1, 1) := by decide +kernel
theorem dX5_isOpen_25 : decode cX5_isOpen 25 = .ok (.invokevirtual 86, 3) := by decide +kernel
theorem dX5_isOpen_28 : decode cX5_isOpen 28 = .ok (.ifCond .eq 7, 3) := by decide +kernel
theorem dX5_isOpen_31 : decode cX5_isOpen 31 = .ok (.iconst 1, 1) := by decide +kernel
theorem dX5_isOpen_32 : decode cX5_isOpen 32 = .ok (.goto 4, 3) := by decide +kernel
theorem dX5_isOpen_35 : decode cX5_isOpen 35 = .ok (.iconst 0, 1) := by decide +kernel
theorem dX5_isOpen_36 : decode cX5_isOpen 36 = .ok (.ireturn, 1) := by decide +kernel
theorem dX5_roll_0 : decode cX5_roll 0 = .ok (.aload_n 0, 1) := by decide +kernel
theorem dX5_roll_1 : decode cX5_roll 1 = .ok (.iconst 0, 1) := by decide +kernel
theorem dX5_roll_2 : decode cX5_roll 2 = .ok (.putfield 71, 3) := by decide +kernel
theorem dX5_roll_5 : decode cX5_roll 5 = .ok (.iload_n 1, 1) := by decide +kernel
theorem dX5_roll_6 : decode cX5_roll 6 = .ok (.invokestatic 89, 3) := by decide +kernel
theorem dX5_roll_9 : decode cX5_roll 9 = .ok (.ifCond .eq 11, 3) := by decide +kernel
theorem dX5_roll_12 : decode cX5_roll 12 = .ok (.aload_n 0, 1) := by decide +kernel
theorem dX5_roll_13 : decode cX5_roll 13 = .ok (.iload_n 1, 1) := by decide +kernel
theorem dX5_roll_14 : decode cX5_roll 14 = .ok (.invokevirtual 92, 3) := by decide +kernel
theorem dX5_roll_17 : decode cX5_roll 17 = .ok (.goto 8, 3) := by decide +kernel
theorem dX5_roll_20 : decode cX5_roll 20 = .ok (.aload_n 0, 1) := by decide +kernel
theorem dX5_roll_21 : decode cX5_roll 21 = .ok (.iconst 1, 1) := by decide +kernel
theorem dX5_roll_22 : decode cX5_roll 22 = .ok (.invokevirtual 96, 3) := by decide +kernel
theorem dX5_roll_25 : decode cX5_roll 25 = .ok (.ireturn, 1) := by decide +kernel
theorem dX5_fix_0 : decode cX5_fix 0 = .ok (.aload_n 0, 1) := by decide +kernel
theorem dX5_fix_1 : decode cX5_fix 1 = .ok (.iload_n 1, 1) := by decide +kernel
theorem dX5_fix_2 : decode cX5_fix 2 = .ok (.invokestatic 89, 3) := by decide +kernel
theorem dX5_fix_5 : decode cX5_fix 5 = .ok (.ifCond .eq 16, 3) := by decide +kernel
theorem dX5_fix_8 : decode cX5_fix 8 = .ok (.iload_n 2, 1) := by decide +kernel
theorem dX5_fix_9 : decode cX5_fix 9 = .ok (.sipush (-500), 3) := by decide +kernel
theorem dX5_fix_12 : decode cX5_fix 12 = .ok (.sipush 2000, 3) := by decide +kernel
theorem dX5_fix_15 : decode cX5_fix 15 = .ok (.invokestatic 75, 3) := by decide +kernel
theorem dX5_fix_18 : decode cX5_fix 18 = .ok (.ifCond .ne 7, 3) := by decide +kernel
theorem dX5_fix_21 : decode cX5_fix 21 = .ok (.iconst 1, 1) := by decide +kernel
theorem dX5_fix_22 : decode cX5_fix 22 = .ok (.goto 26, 3) := by decide +kernel
theorem dX5_fix_25 : decode cX5_fix 25 = .ok (.aload_n 0, 1) := by decide +kernel
theorem dX5_fix_26 : decode cX5_fix 26 = .ok (.getfield 17, 3) := by decide +kernel
theorem dX5_fix_29 : decode cX5_fix 29 = .ok (.iload_n 1, 1) := by decide +kernel
theorem dX5_fix_30 : decode cX5_fix 30 = .ok (.baload, 1) := by decide +kernel
theorem dX5_fix_31 : decode cX5_fix 31 = .ok (.ifCond .ne 16, 3) := by decide +kernel
theorem dX5_fix_34 : decode cX5_fix 34 = .ok (.aload_n 0, 1) := by decide +kernel
theorem dX5_fix_35 : decode cX5_fix 35 = .ok (.getfield 99, 3) := by decide +kernel
theorem dX5_fix_38 : decode cX5_fix 38 = .ok (.bipush 60, 2) := by decide +kernel
theorem dX5_fix_40 : decode cX5_fix 40 = .ok (.if_icmp .ne 7, 3) := by decide +kernel
theorem dX5_fix_43 : decode cX5_fix 43 = .ok (.iconst 2, 1) := by decide +kernel
theorem dX5_fix_44 : decode cX5_fix 44 = .ok (.goto 4, 3) := by decide +kernel
theorem dX5_fix_47 : decode cX5_fix 47 = .ok (.iconst 0, 1) := by decide +kernel
theorem dX5_fix_48 : decode cX5_fix 48 = .ok (.putfield 71, 3) := by decide +kernel
theorem dX5_fix_51 : decode cX5_fix 51 = .ok (.aload_n 0, 1) := by decide +kernel
theorem dX5_fix_52 : decode cX5_fix 52 = .ok (.getfield 71, 3) := by decide +kernel
theorem dX5_fix_55 : decode cX5_fix 55 = .ok (.ifCond .le 5, 3) := by decide +kernel
theorem dX5_fix_58 : decode cX5_fix 58 = .ok (.iconst 0, 1) := by decide +kernel
theorem dX5_fix_59 : decode cX5_fix 59 = .ok (.ireturn, 1) := by decide +kernel
theorem dX5_fix_60 : decode cX5_fix 60 = .ok (.aload_n 0, 1) := by decide +kernel
theorem dX5_fix_61 : decode cX5_fix 61 = .ok (.dup, 1) := by decide +kernel
theorem dX5_fix_62 : decode cX5_fix 62 = .ok (.getfield 99, 3) := by decide +kernel
theorem dX5_fix_65 : decode cX5_fix 65 = .ok (.aload_n 0, 1) := by decide +kernel
theorem dX5_fix_66 : decode cX5_fix 66 = .ok (.getfield 17, 3) := by decide +kernel
theorem dX5_fix_69 : decode cX5_fix 69 = .ok (.iload_n 1, 1) := by decide +kernel
theorem dX5_fix_70 : decode cX5_fix 70 = .ok (.baload, 1) := by decide +kernel
theorem dX5_fix_71 : decode cX5_fix 71 = .ok (.ifCond .eq 7, 3) := by decide +kernel
theorem dX5_fix_74 : decode cX5_fix 74 = .ok (.iconst 0, 1) := by decide +kernel
theorem dX5_fix_75 : decode cX5_fix 75 = .ok (.goto 4, 3) := by decide +kernel
theorem dX5_fix_78 : decode cX5_fix 78 = .ok (.iconst 1, 1) := by decide +kernel
theorem dX5_fix_79 : decode cX5_fix 79 = .ok (.iadd, 1) := by decide +kernel
theorem dX5_fix_80 : decode cX5_fix 80 = .ok (.putfield 99, 3) := by decide +kernel
theorem dX5_fix_83 : decode cX5_fix 83 = .ok (.aload_n 0, 1) := by decide +kernel
theorem dX5_fix_84 : decode cX5_fix 84 = .ok (.getfield 17, 3) := by decide +kernel
theorem dX5_fix_87 : decode cX5_fix 87 = .ok (.iload_n 1, 1) := by decide +kernel
theorem dX5_fix_88 : decode cX5_fix 88 = .ok (.iconst 1, 1) := by decide +kernel
theorem dX5_fix_89 : decode cX5_fix 89 = .ok (.bastore, 1) := by decide +kernel
theorem dX5_fix_90 : decode cX5_fix 90 = .ok (.aload_n 0, 1) := by decide +kernel
theorem dX5_fix_91 : decode cX5_fix 91 = .ok (.getfield 20, 3) := by decide +kernel
theorem dX5_fix_94 : decode cX5_fix 94 = .ok (.iload_n 1, 1) := by decide +kernel
theorem dX5_fix_95 : decode cX5_fix 95 = .ok (.iload_n 2, 1) := by decide +kernel
theorem dX5_fix_96 : decode cX5_fix 96 = .ok (.iastore, 1) := by decide +kernel
theorem dX5_fix_97 : decode cX5_fix 97 = .ok (.aload_n 0, 1) := by decide +kernel
theorem dX5_fix_98 : decode cX5_fix 98 = .ok (.getfield 99, 3) := by decide +kernel
theorem dX5_fix_101 : decode cX5_fix 101 = .ok (.ireturn, 1) := by decide +kernel
theorem dX5_rateFor_0 : decode cX5_rateFor 0 = .ok (.aload_n 0, 1) := by decide +kernel
theorem dX5_rateFor_1 : decode cX5_rateFor 1 = .ok (.iconst 0, 1) := by decide +kernel
theorem dX5_rateFor_2 : decode cX5_rateFor 2 = .ok (.putfield 71, 3) := by decide +kernel
theorem dX5_rateFor_5 : decode cX5_rateFor 5 = .ok (.iload_n 1, 1) := by decide +kernel
theorem dX5_rateFor_6 : decode cX5_rateFor 6 = .ok (.invokestatic 89, 3) := by decide +kernel
theorem dX5_rateFor_9 : decode cX5_rateFor 9 = .ok (.ifCond .eq 11, 3) := by decide +kernel
theorem dX5_rateFor_12 : decode cX5_rateFor 12 = .ok (.aload_n 0, 1) := by decide +kernel
theorem dX5_rateFor_13 : decode cX5_rateFor 13 = .ok (.iload_n 1, 1) := by decide +kernel
theorem dX5_rateFor_14 : decode cX5_rateFor 14 = .ok (.invokevirtual 102, 3) := by decide +kernel
theorem dX5_rateFor_17 : decode cX5_rateFor 17 = .ok (.goto 8, 3) := by decide +kernel
theorem dX5_rateFor_20 : decode cX5_rateFor 20 = .ok (.aload_n 0, 1) := by decide +kernel
theorem dX5_rateFor_21 : decode cX5_rateFor 21 = .ok (.iconst 1, 1) := by decide +kernel
theorem dX5_rateFor_22 : decode cX5_rateFor 22 = .ok (.invokevirtual 96, 3) := by decide +kernel
theorem dX5_rateFor_25 : decode cX5_rateFor 25 = .ok (.ireturn, 1) := by decide +kernel
theorem dX5_trade_0 : decode cX5_trade 0 = .ok (.iload_n 2, 1) := by decide +kernel
theorem dX5_trade_1 : decode cX5_trade 1 = .ok (.iconst 1, 1) := by decide +kernel
theorem dX5_trade_2 : decode cX5_trade 2 = .ok (.sipush 1000, 3) := by decide +kernel
theorem dX5_trade_5 : decode cX5_trade 5 = .ok (.invokestatic 75, 3) := by decide +kernel
theorem dX5_trade_8 : decode cX5_trade 8 = .ok (.ifCond .eq 56, 3) := by decide +kernel
theorem dX5_trade_11 : decode cX5_trade 11 = .ok (.iload 4, 2) := by decide +kernel
theorem dX5_trade_13 : decode cX5_trade 13 = .ok (.sipush (-500), 3) := by decide +kernel
theorem dX5_trade_16 : decode cX5_trade 16 = .ok (.sipush 2000, 3) := by decide +kernel
theorem dX5_trade_19 : decode cX5_trade 19 = .ok (.invokestatic 75, 3) := by decide +kernel
theorem dX5_trade_22 : decode cX5_trade 22 = .ok (.ifCond .eq 42, 3) := by decide +kernel
theorem dX5_trade_25 : decode cX5_trade 25 = .ok (.iload 5, 2) := by decide +kernel
theorem dX5_trade_27 : decode cX5_trade 27 = .ok (.iconst 0, 1) := by decide +kernel
theorem dX5_trade_28 : decode cX5_trade 28 = .ok (.sipush 1000, 3) := by decide +kernel
theorem dX5_trade_31 : decode cX5_trade 31 = .ok (.invokestatic 75, 3) := by decide +kernel
theorem dX5_trade_34 : decode cX5_trade 34 = .ok (.ifCond .eq 30, 3) := by decide +kernel
theorem dX5_trade_37 : decode cX5_trade 37 = .ok (.iload 6, 2) := by decide +kernel
theorem dX5_trade_39 : decode cX5_trade 39 = .ok (.iconst 5, 1) := by decide +kernel
theorem dX5_trade_40 : decode cX5_trade 40 = .ok (.sipush 180, 3) := by decide +kernel
theorem dX5_trade_43 : decode cX5_trade 43 = .ok (.invokestatic 75, 3) := by decide +kernel
theorem dX5_trade_46 : decode cX5_trade 46 = .ok (.ifCond .eq 18, 3) := by decide +kernel
theorem dX5_trade_49 : decode cX5_trade 49 = .ok (.iload 7, 2) := by decide +kernel
theorem dX5_trade_51 : decode cX5_trade 51 = .ok (.iconst 1, 1) := by decide +kernel
theorem dX5_trade_52 : decode cX5_trade 52 = .ok (.bipush 10, 2) := by decide +kernel
theorem dX5_trade_54 : decode cX5_trade 54 = .ok (.invokestatic 75, 3) := by decide +kernel
theorem dX5_trade_57 : decode cX5_trade 57 = .ok (.ifCond .eq 7, 3) := by decide +kernel
theorem dX5_trade_60 : decode cX5_trade 60 = .ok (.iconst 1, 1) := by decide +kernel
theorem dX5_trade_61 : decode cX5_trade 61 = .ok (.goto 4, 3) := by decide +kernel
theorem dX5_trade_64 : decode cX5_trade 64 = .ok (.iconst 0, 1) := by decide +kernel
theorem dX5_trade_65 : decode cX5_trade 65 = .ok (.istore 8, 2) := by decide +kernel
theorem dX5_trade_67 : decode cX5_trade 67 = .ok (.aload_n 0, 1) := by decide +kernel
theorem dX5_trade_68 : decode cX5_trade 68 = .ok (.iload_n 1, 1) := by decide +kernel
theorem dX5_trade_69 : decode cX5_trade 69 = .ok (.invokestatic 105, 3) := by decide +kernel
theorem dX5_trade_72 : decode cX5_trade 72 = .ok (.ifCond .ne 7, 3) := by decide +kernel
theorem dX5_trade_75 : decode cX5_trade 75 = .ok (.iconst 1, 1) := by decide +kernel
theorem dX5_trade_76 : decode cX5_trade 76 = .ok (.goto 26, 3) := by decide +kernel
theorem dX5_trade_79 : decode cX5_trade 79 = .ok (.iload 8, 2) := by decide +kernel
theorem dX5_trade_81 : decode cX5_trade 81 = .ok (.ifCond .ne 7, 3) := by decide +kernel
theorem dX5_trade_84 : decode cX5_trade 84 = .ok (.iconst 2, 1) := by decide +kernel
theorem dX5_trade_85 : decode cX5_trade 85 = .ok (.goto 17, 3) := by decide +kernel
theorem dX5_trade_88 : decode cX5_trade 88 = .ok (.aload_n 0, 1) := by decide +kernel
theorem dX5_trade_89 : decode cX5_trade 89 = .ok (.getfield 79, 3) := by decide +kernel
theorem dX5_trade_92 : decode cX5_trade 92 = .ok (.bipush 10, 2) := by decide +kernel
theorem dX5_trade_94 : decode cX5_trade 94 = .ok (.if_icmp .ne 7, 3) := by decide +kernel
theorem dX5_trade_97 : decode cX5_trade 97 = .ok (.iconst 3, 1) := by decide +kernel
theorem dX5_trade_98 : decode cX5_trade 98 = .ok (.goto 4, 3) := by decide +kernel
theorem dX5_trade_101 : decode cX5_trade 101 = .ok (.iconst 0, 1) := by decide +kernel
theorem dX5_trade_102 : decode cX5_trade 102 = .ok (.putfield 71, 3) := by decide +kernel
theorem dX5_trade_105 : decode cX5_trade 105 = .ok (.aload_n 0, 1) := by decide +kernel
theorem dX5_trade_106 : decode cX5_trade 106 = .ok (.getfield 71, 3) := by decide +kernel
theorem dX5_trade_109 : decode cX5_trade 109 = .ok (.ifCond .le 5, 3) := by decide +kernel
theorem dX5_trade_112 : decode cX5_trade 112 = .ok (.iconst 0, 1) := by decide +kernel
theorem dX5_trade_113 : decode cX5_trade 113 = .ok (.ireturn, 1) := by decide +kernel
theorem dX5_trade_114 : decode cX5_trade 114 = .ok (.aload_n 0, 1) := by decide +kernel
theorem dX5_trade_115 : decode cX5_trade 115 = .ok (.getfield 23, 3) := by decide +kernel
theorem dX5_trade_118 : decode cX5_trade 118 = .ok (.aload_n 0, 1) := by decide +kernel
theorem dX5_trade_119 : decode cX5_trade 119 = .ok (.getfield 79, 3) := by decide +kernel
theorem dX5_trade_122 : decode cX5_trade 122 = .ok (.iload_n 1, 1) := by decide +kernel
theorem dX5_trade_123 : decode cX5_trade 123 = .ok (.iastore, 1) := by decide +kernel
theorem dX5_trade_124 : decode cX5_trade 124 = .ok (.aload_n 0, 1) := by decide +kernel
theorem dX5_trade_125 : decode cX5_trade 125 = .ok (.getfield 26, 3) := by decide +kernel
theorem dX5_trade_128 : decode cX5_trade 128 = .ok (.aload_n 0, 1) := by decide +kernel
theorem dX5_trade_129 : decode cX5_trade 129 = .ok (.getfield 79, 3) := by decide +kernel
theorem dX5_trade_132 : decode cX5_trade 132 = .ok (.iload_n 2, 1) := by decide +kernel
theorem dX5_trade_133 : decode cX5_trade 133 = .ok (.iastore, 1) := by decide +kernel
theorem dX5_trade_134 : decode cX5_trade 134 = .ok (.aload_n 0, 1) := by decide +kernel
theorem dX5_trade_135 : decode cX5_trade 135 = .ok (.getfield 29, 3) := by decide +kernel
theorem dX5_trade_138 : decode cX5_trade 138 = .ok (.aload_n 0, 1) := by decide +kernel
theorem dX5_trade_139 : decode cX5_trade 139 = .ok (.getfield 79, 3) := by decide +kernel
theorem dX5_trade_142 : decode cX5_trade 142 = .ok (.iload_n 3, 1) := by decide +kernel
theorem dX5_trade_143 : decode cX5_trade 143 = .ok (.bastore, 1) := by decide +kernel
theorem dX5_trade_144 : decode cX5_trade 144 = .ok (.aload_n 0, 1) := by decide +kernel
theorem dX5_trade_145 : decode cX5_trade 145 = .ok (.getfield 32, 3) := by decide +kernel
theorem dX5_trade_148 : decode cX5_trade 148 = .ok (.aload_n 0, 1) := by decide +kernel
theorem dX5_trade_149 : decode cX5_trade 149 = .ok (.getfield 79, 3) := by decide +kernel
theorem dX5_trade_152 : decode cX5_trade 152 = .ok (.iload 4, 2) := by decide +kernel
theorem dX5_trade_154 : decode cX5_trade 154 = .ok (.iastore, 1) := by decide +kernel
theorem dX5_trade_155 : decode cX5_trade 155 = .ok (.aload_n 0, 1) := by decide +kernel
theorem dX5_trade_156 : decode cX5_trade 156 = .ok (.getfield 35, 3) := by decide +kernel
theorem dX5_trade_159 : decode cX5_trade 159 = .ok (.aload_n 0, 1) := by decide +kernel
theorem dX5_trade_160 : decode cX5_trade 160 = .ok (.getfield 79, 3) := by decide +kernel
theorem dX5_trade_163 : decode cX5_trade 163 = .ok (.iload 5, 2) := by decide +kernel
theorem dX5_trade_165 : decode cX5_trade 165 = .ok (.iastore, 1) := by decide +kernel
theorem dX5_trade_166 : decode cX5_trade 166 = .ok (.aload_n 0, 1) := by decide +kernel
theorem dX5_trade_167 : decode cX5_trade 167 = .ok (.getfield 38, 3) := by decide +kernel
theorem dX5_trade_170 : decode cX5_trade 170 = .ok (.aload_n 0, 1) := by decide +kernel
theorem dX5_trade_171 : decode cX5_trade 171 = .ok (.getfield 79, 3) := by decide +kernel
theorem dX5_trade_174 : decode cX5_trade 174 = .ok (.iload 6, 2) := by decide +kernel
theorem dX5_trade_176 : decode cX5_trade 176 = .ok (.iastore, 1) := by decide +kernel
theorem dX5_trade_177 : decode cX5_trade 177 = .ok (.aload_n 0, 1) := by decide +kernel
theorem dX5_trade_178 : decode cX5_trade 178 = .ok (.getfield 41, 3) := by decide +kernel
theorem dX5_trade_181 : decode cX5_trade 181 = .ok (.aload_n 0, 1) := by decide +kernel
theorem dX5_trade_182 : decode cX5_trade 182 = .ok (.getfield 79, 3) := by decide +kernel
theorem dX5_trade_185 : decode cX5_trade 185 = .ok (.iload 7, 2) := by decide +kernel
theorem dX5_trade_187 : decode cX5_trade 187 = .ok (.iastore, 1) := by decide +kernel
theorem dX5_trade_188 : decode cX5_trade 188 = .ok (.aload_n 0, 1) := by decide +kernel
theorem dX5_trade_189 : decode cX5_trade 189 = .ok (.dup, 1) := by decide +kernel
theorem dX5_trade_190 : decode cX5_trade 190 = .ok (.getfield 79, 3) := by decide +kernel
theorem dX5_trade_193 : decode cX5_trade 193 = .ok (.iconst 1, 1) := by decide +kernel
theorem dX5_trade_194 : decode cX5_trade 194 = .ok (.iadd, 1) := by decide +kernel
theorem dX5_trade_195 : decode cX5_trade 195 = .ok (.putfield 79, 3) := by decide +kernel
theorem dX5_trade_198 : decode cX5_trade 198 = .ok (.aload_n 0, 1) := by decide +kernel
theorem dX5_trade_199 : decode cX5_trade 199 = .ok (.getfield 79, 3) := by decide +kernel
theorem dX5_trade_202 : decode cX5_trade 202 = .ok (.iconst 1, 1) := by decide +kernel
theorem dX5_trade_203 : decode cX5_trade 203 = .ok (.isub, 1) := by decide +kernel
theorem dX5_trade_204 : decode cX5_trade 204 = .ok (.ireturn, 1) := by decide +kernel
theorem dX5_broken_0 : decode cX5_broken 0 = .ok (.iconst 0, 1) := by decide +kernel
theorem dX5_broken_1 : decode cX5_broken 1 = .ok (.istore_n 3, 1) := by decide +kernel
theorem dX5_broken_2 : decode cX5_broken 2 = .ok (.iconst 0, 1) := by decide +kernel
theorem dX5_broken_3 : decode cX5_broken 3 = .ok (.istore 4, 2) := by decide +kernel
theorem dX5_broken_5 : decode cX5_broken 5 = .ok (.iload 4, 2) := by decide +kernel
theorem dX5_broken_7 : decode cX5_broken 7 = .ok (.aload_n 0, 1) := by decide +kernel
theorem dX5_broken_8 : decode cX5_broken 8 = .ok (.getfield 108, 3) := by decide +kernel
theorem dX5_broken_11 : decode cX5_broken 11 = .ok (.if_icmp .ge 45, 3) := by decide +kernel
theorem dX5_broken_14 : decode cX5_broken 14 = .ok (.iload_n 3, 1) := by decide +kernel
theorem dX5_broken_15 : decode cX5_broken 15 = .ok (.aload_n 0, 1) := by decide +kernel
theorem dX5_broken_16 : decode cX5_broken 16 = .ok (.getfield 53, 3) := by decide +kernel
theorem dX5_broken_19 : decode cX5_broken 19 = .ok (.iload 4, 2) := by decide +kernel
theorem dX5_broken_21 : decode cX5_broken 21 = .ok (.iaload, 1) := by decide +kernel
theorem dX5_broken_22 : decode cX5_broken 22 = .ok (.iload_n 1, 1) := by decide +kernel
theorem dX5_broken_23 : decode cX5_broken 23 = .ok (.if_icmp .ne 24, 3) := by decide +kernel
theorem dX5_broken_26 : decode cX5_broken 26 = .ok (.aload_n 0, 1) := by decide +kernel
theorem dX5_broken_27 : decode cX5_broken 27 = .ok (.getfield 56, 3) := by decide +kernel
theorem dX5_broken_30 : decode cX5_broken 30 = .ok (.iload 4, 2) := by decide +kernel
theorem dX5_broken_32 : decode cX5_broken 32 = .ok (.iaload, 1) := by decide +kernel
theorem dX5_broken_33 : decode cX5_broken 33 = .ok (.iload_n 2, 1) := by decide +kernel
theorem dX5_broken_34 : decode cX5_broken 34 = .ok (.if_icmp .gt 13, 3) := by decide +kernel
theorem dX5_broken_37 : decode cX5_broken 37 = .ok (.aload_n 0, 1) := by decide +kernel
theorem dX5_broken_38 : decode cX5_broken 38 = .ok (.getfield 59, 3) := by decide +kernel
theorem dX5_broken_41 : decode cX5_broken 41 = .ok (.iload 4, 2) := by decide +kernel
theorem dX5_broken_43 : decode cX5_broken 43 = .ok (.iaload, 1) := by decide +kernel
theorem dX5_broken_44 : decode cX5_broken 44 = .ok (.goto 4, 3) := by decide +kernel
theorem dX5_broken_47 : decode cX5_broken 47 = .ok (.iconst 0, 1) := by decide +kernel
theorem dX5_broken_48 : decode cX5_broken 48 = .ok (.iadd, 1) := by decide +kernel
theorem dX5_broken_49 : decode cX5_broken 49 = .ok (.istore_n 3, 1) := by decide +kernel
theorem dX5_broken_50 : decode cX5_broken 50 = .ok (.iinc 4 1, 3) := by decide +kernel
theorem dX5_broken_53 : decode cX5_broken 53 = .ok (.goto (-48), 3) := by decide +kernel
theorem dX5_broken_56 : decode cX5_broken 56 = .ok (.iload_n 3, 1) := by decide +kernel
theorem dX5_broken_57 : decode cX5_broken 57 = .ok (.ireturn, 1) := by decide +kernel
theorem dX5_rest_0 : decode cX5_rest 0 = .ok (.aload_n 0, 1) := by decide +kernel
theorem dX5_rest_1 : decode cX5_rest 1 = .ok (.getfield 26, 3) := by decide +kernel
theorem dX5_rest_4 : decode cX5_rest 4 = .ok (.iload_n 1, 1) := by decide +kernel
theorem dX5_rest_5 : decode cX5_rest 5 = .ok (.iaload, 1) := by decide +kernel
theorem dX5_rest_6 : decode cX5_rest 6 = .ok (.aload_n 0, 1) := by decide +kernel
theorem dX5_rest_7 : decode cX5_rest 7 = .ok (.iload_n 1, 1) := by decide +kernel
theorem dX5_rest_8 : decode cX5_rest 8 = .ok (.sipush 3001, 3) := by decide +kernel
theorem dX5_rest_11 : decode cX5_rest 11 = .ok (.invokevirtual 111, 3) := by decide +kernel
theorem dX5_rest_14 : decode cX5_rest 14 = .ok (.isub, 1) := by decide +kernel
theorem dX5_rest_15 : decode cX5_rest 15 = .ok (.ireturn, 1) := by decide +kernel
theorem dX5_countBreaks_0 : decode cX5_countBreaks 0 = .ok (.iconst 0, 1) := by decide +kernel
theorem dX5_countBreaks_1 : decode cX5_countBreaks 1 = .ok (.istore_n 2, 1) := by decide +kernel
theorem dX5_countBreaks_2 : decode cX5_countBreaks 2 = .ok (.iconst 0, 1) := by decide +kernel
theorem dX5_countBreaks_3 : decode cX5_countBreaks 3 = .ok (.istore_n 3, 1) := by decide +kernel
theorem dX5_countBreaks_4 : decode cX5_countBreaks 4 = .ok (.iload_n 3, 1) := by decide +kernel
theorem dX5_countBreaks_5 : decode cX5_countBreaks 5 = .ok (.aload_n 0, 1) := by decide +kernel
theorem dX5_countBreaks_6 : decode cX5_countBreaks 6 = .ok (.getfield 108, 3) := by decide +kernel
theorem dX5_countBreaks_9 : decode cX5_countBreaks 9 = .ok (.if_icmp .ge 27, 3) := by decide +kernel
theorem dX5_countBreaks_12 : decode cX5_countBreaks 12 = .ok (.iload_n 2, 1) := by decide +kernel
theorem dX5_countBreaks_13 : decode cX5_countBreaks 13 = .ok (.aload_n 0, 1) := by decide +kernel
theorem dX5_countBreaks_14 : decode cX5_countBreaks 14 = .ok (.getfield 53, 3) := by decide +kernel
theorem dX5_countBreaks_17 : decode cX5_countBreaks 17 = .ok (.iload_n 3, 1) := by decide +kernel
theorem dX5_countBreaks_18 : decode cX5_countBreaks 18 = .ok (.iaload, 1) := by decide +kernel
theorem dX5_countBreaks_19 : decode cX5_countBreaks 19 = .ok (.iload_n 1, 1) := by decide +kernel
theorem dX5_countBreaks_20 : decode cX5_countBreaks 20 = .ok (.if_icmp .ne 7, 3) := by decide +kernel
theorem dX5_countBreaks_23 : decode cX5_countBreaks 23 = .ok (.iconst 1, 1) := by decide +kernel
theorem dX5_countBreaks_24 : decode cX5_countBreaks 24 = .ok (.goto 4, 3) := by decide +kernel
theorem dX5_countBreaks_27 : decode cX5_countBreaks 27 = .ok (.iconst 0, 1) := by decide +kernel
theorem dX5_countBreaks_28 : decode cX5_countBreaks 28 = .ok (.iadd, 1) := by decide +kernel
theorem dX5_countBreaks_29 : decode cX5_countBreaks 29 = .ok (.istore_n 2, 1) := by decide +kernel
theorem dX5_countBreaks_30 : decode cX5_countBreaks 30 = .ok (.iinc 3 1, 3) := by decide +kernel
theorem dX5_countBreaks_33 : decode cX5_countBreaks 33 = .ok (.goto (-29), 3) := by decide +kernel
theorem dX5_countBreaks_36 : decode cX5_countBreaks 36 = .ok (.iload_n 2, 1) := by decide +kernel
theorem dX5_countBreaks_37 : decode cX5_countBreaks 37 = .ok (.ireturn, 1) := by decide +kernel
theorem dX5_setTerms_0 : decode cX5_setTerms 0 = .ok (.iload_n 2, 1) := by decide +kernel
theorem dX5_setTerms_1 : decode cX5_setTerms 1 = .ok (.sipush (-500), 3) := by decide +kernel
theorem dX5_setTerms_4 : decode cX5_setTerms 4 = .ok (.sipush 500, 3) := by decide +kernel
theorem dX5_setTerms_7 : decode cX5_setTerms 7 = .ok (.invokestatic 75, 3) := by decide +kernel
theorem dX5_setTerms_10 : decode cX5_setTerms 10 = .ok (.ifCond .eq 26, 3) := by decide +kernel
theorem dX5_setTerms_13 : decode cX5_setTerms 13 = .ok (.iload_n 3, 1) := by decide +kernel
theorem dX5_setTerms_14 : decode cX5_setTerms 14 = .ok (.iconst 0, 1) := by decide +kernel
theorem dX5_setTerms_15 : decode cX5_setTerms 15 = .ok (.iconst 1, 1) := by decide +kernel
theorem dX5_setTerms_16 : decode cX5_setTerms 16 = .ok (.invokestatic 75, 3) := by decide +kernel
theorem dX5_setTerms_19 : decode cX5_setTerms 19 = .ok (.ifCond .eq 17, 3) := by decide +kernel
theorem dX5_setTerms_22 : decode cX5_setTerms 22 = .ok (.iload 4, 2) := by decide +kernel
theorem dX5_setTerms_24 : decode cX5_setTerms 24 = .ok (.iconst 0, 1) := by decide +kernel
theorem dX5_setTerms_25 : decode cX5_setTerms 25 = .ok (.iconst 2, 1) := by decide +kernel
theorem dX5_setTerms_26 : decode cX5_setTerms 26 = .ok (.invokestatic 75, 3) := by decide +kernel
theorem dX5_setTerms_29 : decode cX5_setTerms 29 = .ok (.ifCond .eq 7, 3) := by decide +kernel
theorem dX5_setTerms_32 : decode cX5_setTerms 32 = .ok (.iconst 1, 1) := by decide +kernel
theorem dX5_setTerms_33 : decode cX5_setTerms 33 = .ok (.goto 4, 3) := by decide +kernel
theorem dX5_setTerms_36 : decode cX5_setTerms 36 = .ok (.iconst 0, 1) := by decide +kernel
theorem dX5_setTerms_37 : decode cX5_setTerms 37 = .ok (.istore 5, 2) := by decide +kernel
theorem dX5_setTerms_39 : decode cX5_setTerms 39 = .ok (.aload_n 0, 1) := by decide +kernel
theorem dX5_setTerms_40 : decode cX5_setTerms 40 = .ok (.aload_n 0, 1) := by decide +kernel
theorem dX5_setTerms_41 : decode cX5_setTerms 41 = .ok (.iload_n 1, 1) := by decide +kernel
theorem dX5_setTerms_42 : decode cX5_setTerms 42 = .ok (.invokevirtual 82, 3) := by decide +kernel
theorem dX5_setTerms_45 : decode cX5_setTerms 45 = .ok (.ifCond .ne 7, 3) := by decide +kernel
theorem dX5_setTerms_48 : decode cX5_setTerms 48 = .ok (.iconst 1, 1) := by decide +kernel
theorem dX5_setTerms_49 : decode cX5_setTerms 49 = .ok (.goto 25, 3) := by decide +kernel
theorem dX5_setTerms_52 : decode cX5_setTerms 52 = .ok (.iload 5, 2) := by decide +kernel
theorem dX5_setTerms_54 : decode cX5_setTerms 54 = .ok (.ifCond .ne 7, 3) := by decide +kernel
theorem dX5_setTerms_57 : decode cX5_setTerms 57 = .ok (.iconst 2, 1) := by decide +kernel
theorem dX5_setTerms_58 : decode cX5_setTerms 58 = .ok (.goto 16, 3) := by decide +kernel
theorem dX5_setTerms_61 : decode cX5_setTerms 61 = .ok (.aload_n 0, 1) := by decide +kernel
theorem dX5_setTerms_62 : decode cX5_setTerms 62 = .ok (.iload_n 1, 1) := by decide +kernel
theorem dX5_setTerms_63 : decode cX5_setTerms 63 = .ok (.invokevirtual 115, 3) := by decide +kernel
theorem dX5_setTerms_66 : decode cX5_setTerms 66 = .ok (.ifCond .le 7, 3) := by decide +kernel
theorem dX5_setTerms_69 : decode cX5_setTerms 69 = .ok (.iconst 3, 1) := by decide +kernel
theorem dX5_setTerms_70 : decode cX5_setTerms 70 = .ok (.goto 4, 3) := by decide +kernel
theorem dX5_setTerms_73 : decode cX5_setTerms 73 = .ok (.iconst 0, 1) := by decide +kernel
theorem dX5_setTerms_74 : decode cX5_setTerms 74 = .ok (.putfield 71, 3) := by decide +kernel
theorem dX5_setTerms_77 : decode cX5_setTerms 77 = .ok (.aload_n 0, 1) := by decide +kernel
theorem dX5_setTerms_78 : decode cX5_setTerms 78 = .ok (.getfield 71, 3) := by decide +kernel
theorem dX5_setTerms_81 : decode cX5_setTerms 81 = .ok (.ifCond .ne 25, 3) := by decide +kernel
theorem dX5_setTerms_84 : decode cX5_setTerms 84 = .ok (.aload_n 0, 1) := by decide +kernel
theorem dX5_setTerms_85 : decode cX5_setTerms 85 = .ok (.getfield 44, 3) := by decide +kernel
theorem dX5_setTerms_88 : decode cX5_setTerms 88 = .ok (.iload_n 1, 1) := by decide +kernel
theorem dX5_setTerms_89 : decode cX5_setTerms 89 = .ok (.iload_n 2, 1) := by decide +kernel
theorem dX5_setTerms_90 : decode cX5_setTerms 90 = .ok (.iastore, 1) := by decide +kernel
theorem dX5_setTerms_91 : decode cX5_setTerms 91 = .ok (.aload_n 0, 1) := by decide +kernel
theorem dX5_setTerms_92 : decode cX5_setTerms 92 = .ok (.getfield 47, 3) := by decide +kernel
theorem dX5_setTerms_95 : decode cX5_setTerms 95 = .ok (.iload_n 1, 1) := by decide +kernel
theorem dX5_setTerms_96 : decode cX5_setTerms 96 = .ok (.iload_n 3, 1) := by decide +kernel
theorem dX5_setTerms_97 : decode cX5_setTerms 97 = .ok (.iastore, 1) := by decide +kernel
theorem dX5_setTerms_98 : decode cX5_setTerms 98 = .ok (.aload_n 0, 1) := by decide +kernel
theorem dX5_setTerms_99 : decode cX5_setTerms 99 = .ok (.getfield 50, 3) := by decide +kernel
theorem dX5_setTerms_102 : decode cX5_setTerms 102 = .ok (.iload_n 1, 1) := by decide +kernel
theorem dX5_setTerms_103 : decode cX5_setTerms 103 = .ok (.iload 4, 2) := by decide +kernel
theorem dX5_setTerms_105 : decode cX5_setTerms 105 = .ok (.iastore, 1) := by decide +kernel
theorem dX5_setTerms_106 : decode cX5_setTerms 106 = .ok (.return_, 1) := by decide +kernel
theorem dX5_breaks_0 : decode cX5_breaks 0 = .ok (.aload_n 0, 1) := by decide +kernel
theorem dX5_breaks_1 : decode cX5_breaks 1 = .ok (.getfield 53, 3) := by decide +kernel
theorem dX5_breaks_4 : decode cX5_breaks 4 = .ok (.aload_n 0, 1) := by decide +kernel
theorem dX5_breaks_5 : decode cX5_breaks 5 = .ok (.getfield 108, 3) := by decide +kernel
theorem dX5_breaks_8 : decode cX5_breaks 8 = .ok (.iload_n 1, 1) := by decide +kernel
theorem dX5_breaks_9 : decode cX5_breaks 9 = .ok (.iastore, 1) := by decide +kernel
theorem dX5_breaks_10 : decode cX5_breaks 10 = .ok (.aload_n 0, 1) := by decide +kernel
theorem dX5_breaks_11 : decode cX5_breaks 11 = .ok (.getfield 56, 3) := by decide +kernel
theorem dX5_breaks_14 : decode cX5_breaks 14 = .ok (.aload_n 0, 1) := by decide +kernel
theorem dX5_breaks_15 : decode cX5_breaks 15 = .ok (.getfield 108, 3) := by decide +kernel
theorem dX5_breaks_18 : decode cX5_breaks 18 = .ok (.iload_n 2, 1) := by decide +kernel
theorem dX5_breaks_19 : decode cX5_breaks 19 = .ok (.iastore, 1) := by decide +kernel
theorem dX5_breaks_20 : decode cX5_breaks 20 = .ok (.aload_n 0, 1) := by decide +kernel
theorem dX5_breaks_21 : decode cX5_breaks 21 = .ok (.getfield 59, 3) := by decide +kernel
theorem dX5_breaks_24 : decode cX5_breaks 24 = .ok (.aload_n 0, 1) := by decide +kernel
theorem dX5_breaks_25 : decode cX5_breaks 25 = .ok (.getfield 108, 3) := by decide +kernel
theorem dX5_breaks_28 : decode cX5_breaks 28 = .ok (.iload_n 3, 1) := by decide +kernel
theorem dX5_breaks_29 : decode cX5_breaks 29 = .ok (.iastore, 1) := by decide +kernel
theorem dX5_breaks_30 : decode cX5_breaks 30 = .ok (.aload_n 0, 1) := by decide +kernel
theorem dX5_breaks_31 : decode cX5_breaks 31 = .ok (.dup, 1) := by decide +kernel
theorem dX5_breaks_32 : decode cX5_breaks 32 = .ok (.getfield 108, 3) := by decide +kernel
theorem dX5_breaks_35 : decode cX5_breaks 35 = .ok (.iconst 1, 1) := by decide +kernel
theorem dX5_breaks_36 : decode cX5_breaks 36 = .ok (.iadd, 1) := by decide +kernel
theorem dX5_breaks_37 : decode cX5_breaks 37 = .ok (.putfield 108, 3) := by decide +kernel
theorem dX5_breaks_40 : decode cX5_breaks 40 = .ok (.return_, 1) := by decide +kernel
theorem dX5_breakPart_0 : decode cX5_breakPart 0 = .ok (.aload_n 0, 1) := by decide +kernel
theorem dX5_breakPart_1 : decode cX5_breakPart 1 = .ok (.aload_n 0, 1) := by decide +kernel
theorem dX5_breakPart_2 : decode cX5_breakPart 2 = .ok (.iload_n 1, 1) := by decide +kernel
theorem dX5_breakPart_3 : decode cX5_breakPart 3 = .ok (.invokevirtual 82, 3) := by decide +kernel
theorem dX5_breakPart_6 : decode cX5_breakPart 6 = .ok (.ifCond .ne 7, 3) := by decide +kernel
theorem dX5_breakPart_9 : decode cX5_breakPart 9 = .ok (.iconst 1, 1) := by decide +kernel
theorem dX5_breakPart_10 : decode cX5_breakPart 10 = .ok (.goto 39, 3) := by decide +kernel
theorem dX5_breakPart_13 : decode cX5_breakPart 13 = .ok (.iload_n 2, 1) := by decide +kernel
theorem dX5_breakPart_14 : decode cX5_breakPart 14 = .ok (.invokestatic 89, 3) := by decide +kernel
theorem dX5_breakPart_17 : decode cX5_breakPart 17 = .ok (.ifCond .eq 14, 3) := by decide +kernel
theorem dX5_breakPart_20 : decode cX5_breakPart 20 = .ok (.iload_n 3, 1) := by decide +kernel
theorem dX5_breakPart_21 : decode cX5_breakPart 21 = .ok (.iconst 1, 1) := by decide +kernel
theorem dX5_breakPart_22 : decode cX5_breakPart 22 = .ok (.sipush 1000, 3) := by decide +kernel
theorem dX5_breakPart_25 : decode cX5_breakPart 25 = .ok (.invokestatic 75, 3) := by decide +kernel
theorem dX5_breakPart_28 : decode cX5_breakPart 28 = .ok (.ifCond .ne 7, 3) := by decide +kernel
theorem dX5_breakPart_31 : decode cX5_breakPart 31 = .ok (.iconst 2, 1) := by decide +kernel
theorem dX5_breakPart_32 : decode cX5_breakPart 32 = .ok (.goto 17, 3) := by decide +kernel
theorem dX5_breakPart_35 : decode cX5_breakPart 35 = .ok (.aload_n 0, 1) := by decide +kernel
theorem dX5_breakPart_36 : decode cX5_breakPart 36 = .ok (.iload_n 1, 1) := by decide +kernel
theorem dX5_breakPart_37 : decode cX5_breakPart 37 = .ok (.invokevirtual 118, 3) := by decide +kernel
theorem dX5_breakPart_40 : decode cX5_breakPart 40 = .ok (.iload_n 3, 1) := by decide +kernel
theorem dX5_breakPart_41 : decode cX5_breakPart 41 = .ok (.if_icmp .ge 7, 3) := by decide +kernel
theorem dX5_breakPart_44 : decode cX5_breakPart 44 = .ok (.iconst 3, 1) := by decide +kernel
theorem dX5_breakPart_45 : decode cX5_breakPart 45 = .ok (.goto 4, 3) := by decide +kernel
theorem dX5_breakPart_48 : decode cX5_breakPart 48 = .ok (.iconst 0, 1) := by decide +kernel
theorem dX5_breakPart_49 : decode cX5_breakPart 49 = .ok (.putfield 71, 3) := by decide +kernel
theorem dX5_breakPart_52 : decode cX5_breakPart 52 = .ok (.aload_n 0, 1) := by decide +kernel
theorem dX5_breakPart_53 : decode cX5_breakPart 53 = .ok (.getfield 71, 3) := by decide +kernel
theorem dX5_breakPart_56 : decode cX5_breakPart 56 = .ok (.ifCond .le 5, 3) := by decide +kernel
theorem dX5_breakPart_59 : decode cX5_breakPart 59 = .ok (.iconst 0, 1) := by decide +kernel
theorem dX5_breakPart_60 : decode cX5_breakPart 60 = .ok (.ireturn, 1) := by decide +kernel
theorem dX5_breakPart_61 : decode cX5_breakPart 61 = .ok (.aload_n 0, 1) := by decide +kernel
theorem dX5_breakPart_62 : decode cX5_breakPart 62 = .ok (.iload_n 1, 1) := by decide +kernel
theorem dX5_breakPart_63 : decode cX5_breakPart 63 = .ok (.iload_n 2, 1) := by decide +kernel
theorem dX5_breakPart_64 : decode cX5_breakPart 64 = .ok (.iload_n 3, 1) := by decide +kernel
theorem dX5_breakPart_65 : decode cX5_breakPart 65 = .ok (.invokevirtual 121, 3) := by decide +kernel
theorem dX5_breakPart_68 : decode cX5_breakPart 68 = .ok (.aload_n 0, 1) := by decide +kernel
theorem dX5_breakPart_69 : decode cX5_breakPart 69 = .ok (.iload_n 1, 1) := by decide +kernel
theorem dX5_breakPart_70 : decode cX5_breakPart 70 = .ok (.invokevirtual 115, 3) := by decide +kernel
theorem dX5_breakPart_73 : decode cX5_breakPart 73 = .ok (.ireturn, 1) := by decide +kernel
theorem dX5_party_0 : decode cX5_party 0 = .ok (.aload_n 0, 1) := by decide +kernel
theorem dX5_party_1 : decode cX5_party 1 = .ok (.getfield 23, 3) := by decide +kernel
theorem dX5_party_4 : decode cX5_party 4 = .ok (.iload_n 1, 1) := by decide +kernel
theorem dX5_party_5 : decode cX5_party 5 = .ok (.iaload, 1) := by decide +kernel
theorem dX5_party_6 : decode cX5_party 6 = .ok (.istore_n 3, 1) := by decide +kernel
theorem dX5_party_7 : decode cX5_party 7 = .ok (.iconst (-1), 1) := by decide +kernel
theorem dX5_party_8 : decode cX5_party 8 = .ok (.istore 4, 2) := by decide +kernel
theorem dX5_party_10 : decode cX5_party 10 = .ok (.iconst 0, 1) := by decide +kernel
theorem dX5_party_11 : decode cX5_party 11 = .ok (.istore 5, 2) := by decide +kernel
theorem dX5_party_13 : decode cX5_party 13 = .ok (.iload 5, 2) := by decide +kernel
theorem dX5_party_15 : decode cX5_party 15 = .ok (.aload_n 0, 1) := by decide +kernel
theorem dX5_party_16 : decode cX5_party 16 = .ok (.getfield 62, 3) := by decide +kernel
theorem dX5_party_19 : decode cX5_party 19 = .ok (.iload_n 1, 1) := by decide +kernel
theorem dX5_party_20 : decode cX5_party 20 = .ok (.iaload, 1) := by decide +kernel
theorem dX5_party_21 : decode cX5_party 21 = .ok (.if_icmp .ge 53, 3) := by decide +kernel
theorem dX5_party_24 : decode cX5_party 24 = .ok (.aload_n 0, 1) := by decide +kernel
theorem dX5_party_25 : decode cX5_party 25 = .ok (.getfield 65, 3) := by decide +kernel
theorem dX5_party_28 : decode cX5_party 28 = .ok (.bipush 10, 2) := by decide +kernel
theorem dX5_party_30 : decode cX5_party 30 = .ok (.iload_n 1, 1) := by decide +kernel
theorem dX5_party_31 : decode cX5_party 31 = .ok (.imul, 1) := by decide +kernel
theorem dX5_party_32 : decode cX5_party 32 = .ok (.iload 5, 2) := by decide +kernel
theorem dX5_party_34 : decode cX5_party 34 = .ok (.iadd, 1) := by decide +kernel
theorem dX5_party_35 : decode cX5_party 35 = .ok (.iaload, 1) := by decide +kernel
theorem dX5_party_36 : decode cX5_party 36 = .ok (.istore 6, 2) := by decide +kernel
theorem dX5_party_38 : decode cX5_party 38 = .ok (.iload 6, 2) := by decide +kernel
theorem dX5_party_40 : decode cX5_party 40 = .ok (.iload_n 2, 1) := by decide +kernel
theorem dX5_party_41 : decode cX5_party 41 = .ok (.if_icmp .gt 27, 3) := by decide +kernel
theorem dX5_party_44 : decode cX5_party 44 = .ok (.iload 6, 2) := by decide +kernel
theorem dX5_party_46 : decode cX5_party 46 = .ok (.iload 4, 2) := by decide +kernel
theorem dX5_party_48 : decode cX5_party 48 = .ok (.if_icmp .lt 20, 3) := by decide +kernel
theorem dX5_party_51 : decode cX5_party 51 = .ok (.aload_n 0, 1) := by decide +kernel
theorem dX5_party_52 : decode cX5_party 52 = .ok (.getfield 68, 3) := by decide +kernel
theorem dX5_party_55 : decode cX5_party 55 = .ok (.bipush 10, 2) := by decide +kernel
theorem dX5_party_57 : decode cX5_party 57 = .ok (.iload_n 1, 1) := by decide +kernel
theorem dX5_party_58 : decode cX5_party 58 = .ok (.imul, 1) := by decide +kernel
theorem dX5_party_59 : decode cX5_party 59 = .ok (.iload 5, 2) := by decide +kernel
theorem dX5_party_61 : decode cX5_party 61 = .ok (.iadd, 1) := by decide +kernel
theorem dX5_party_62 : decode cX5_party 62 = .ok (.iaload, 1) := by decide +kernel
theorem dX5_party_63 : decode cX5_party 63 = .ok (.istore_n 3, 1) := by decide +kernel
theorem dX5_party_64 : decode cX5_party 64 = .ok (.iload 6, 2) := by decide +kernel
theorem dX5_party_66 : decode cX5_party 66 = .ok (.istore 4, 2) := by decide +kernel
theorem dX5_party_68 : decode cX5_party 68 = .ok (.iinc 5 1, 3) := by decide +kernel
theorem dX5_party_71 : decode cX5_party 71 = .ok (.goto (-58), 3) := by decide +kernel
theorem dX5_party_74 : decode cX5_party 74 = .ok (.iload_n 3, 1) := by decide +kernel
theorem dX5_party_75 : decode cX5_party 75 = .ok (.ireturn, 1) := by decide +kernel
theorem dX5_handOver_0 : decode cX5_handOver 0 = .ok (.aload_n 0, 1) := by decide +kernel
theorem dX5_handOver_1 : decode cX5_handOver 1 = .ok (.aload_n 0, 1) := by decide +kernel
theorem dX5_handOver_2 : decode cX5_handOver 2 = .ok (.iload_n 1, 1) := by decide +kernel
theorem dX5_handOver_3 : decode cX5_handOver 3 = .ok (.invokevirtual 82, 3) := by decide +kernel
theorem dX5_handOver_6 : decode cX5_handOver 6 = .ok (.ifCond .eq 10, 3) := by decide +kernel
theorem dX5_handOver_9 : decode cX5_handOver 9 = .ok (.iload_n 3, 1) := by decide +kernel
theorem dX5_handOver_10 : decode cX5_handOver 10 = .ok (.invokestatic 105, 3) := by decide +kernel
theorem dX5_handOver_13 : decode cX5_handOver 13 = .ok (.ifCond .ne 7, 3) := by decide +kernel
theorem dX5_handOver_16 : decode cX5_handOver 16 = .ok (.iconst 1, 1) := by decide +kernel
theorem dX5_handOver_17 : decode cX5_handOver 17 = .ok (.goto 30, 3) := by decide +kernel
theorem dX5_handOver_20 : decode cX5_handOver 20 = .ok (.iload_n 2, 1) := by decide +kernel
theorem dX5_handOver_21 : decode cX5_handOver 21 = .ok (.invokestatic 89, 3) := by decide +kernel
theorem dX5_handOver_24 : decode cX5_handOver 24 = .ok (.ifCond .ne 7, 3) := by decide +kernel
theorem dX5_handOver_27 : decode cX5_handOver 27 = .ok (.iconst 2, 1) := by decide +kernel
theorem dX5_handOver_28 : decode cX5_handOver 28 = .ok (.goto 19, 3) := by decide +kernel
theorem dX5_handOver_31 : decode cX5_handOver 31 = .ok (.aload_n 0, 1) := by decide +kernel
theorem dX5_handOver_32 : decode cX5_handOver 32 = .ok (.getfield 62, 3) := by decide +kernel
theorem dX5_handOver_35 : decode cX5_handOver 35 = .ok (.iload_n 1, 1) := by decide +kernel
theorem dX5_handOver_36 : decode cX5_handOver 36 = .ok (.iaload, 1) := by decide +kernel
theorem dX5_handOver_37 : decode cX5_handOver 37 = .ok (.bipush 10, 2) := by decide +kernel
theorem dX5_handOver_39 : decode cX5_handOver 39 = .ok (.if_icmp .ne 7, 3) := by decide +kernel
theorem dX5_handOver_42 : decode cX5_handOver 42 = .ok (.iconst 3, 1) := by decide +kernel
theorem dX5_handOver_43 : decode cX5_handOver 43 = .ok (.goto 4, 3) := by decide +kernel
theorem dX5_handOver_46 : decode cX5_handOver 46 = .ok (.iconst 0, 1) := by decide +kernel
theorem dX5_handOver_47 : decode cX5_handOver 47 = .ok (.putfield 71, 3) := by decide +kernel
theorem dX5_handOver_50 : decode cX5_handOver 50 = .ok (.aload_n 0, 1) := by decide +kernel
theorem dX5_handOver_51 : decode cX5_handOver 51 = .ok (.getfield 71, 3) := by decide +kernel
theorem dX5_handOver_54 : decode cX5_handOver 54 = .ok (.ifCond .le 5, 3) := by decide +kernel
theorem dX5_handOver_57 : decode cX5_handOver 57 = .ok (.iconst 0, 1) := by decide +kernel
theorem dX5_handOver_58 : decode cX5_handOver 58 = .ok (.ireturn, 1) := by decide +kernel
theorem dX5_handOver_59 : decode cX5_handOver 59 = .ok (.aload_n 0, 1) := by decide +kernel
theorem dX5_handOver_60 : decode cX5_handOver 60 = .ok (.iload_n 1, 1) := by decide +kernel
theorem dX5_handOver_61 : decode cX5_handOver 61 = .ok (.iload_n 2, 1) := by decide +kernel
theorem dX5_handOver_62 : decode cX5_handOver 62 = .ok (.invokevirtual 125, 3) := by decide +kernel
theorem dX5_handOver_65 : decode cX5_handOver 65 = .ok (.istore 4, 2) := by decide +kernel
theorem dX5_handOver_67 : decode cX5_handOver 67 = .ok (.aload_n 0, 1) := by decide +kernel
theorem dX5_handOver_68 : decode cX5_handOver 68 = .ok (.getfield 65, 3) := by decide +kernel
theorem dX5_handOver_71 : decode cX5_handOver 71 = .ok (.bipush 10, 2) := by decide +kernel
theorem dX5_handOver_73 : decode cX5_handOver 73 = .ok (.iload_n 1, 1) := by decide +kernel
theorem dX5_handOver_74 : decode cX5_handOver 74 = .ok (.imul, 1) := by decide +kernel
theorem dX5_handOver_75 : decode cX5_handOver 75 = .ok (.aload_n 0, 1) := by decide +kernel
theorem dX5_handOver_76 : decode cX5_handOver 76 = .ok (.getfield 62, 3) := by decide +kernel
theorem dX5_handOver_79 : decode cX5_handOver 79 = .ok (.iload_n 1, 1) := by decide +kernel
theorem dX5_handOver_80 : decode cX5_handOver 80 = .ok (.iaload, 1) := by decide +kernel
theorem dX5_handOver_81 : decode cX5_handOver 81 = .ok (.iadd, 1) := by decide +kernel
theorem dX5_handOver_82 : decode cX5_handOver 82 = .ok (.iload_n 2, 1) := by decide +kernel
theorem dX5_handOver_83 : decode cX5_handOver 83 = .ok (.iastore, 1) := by decide +kernel
theorem dX5_handOver_84 : decode cX5_handOver 84 = .ok (.aload_n 0, 1) := by decide +kernel
theorem dX5_handOver_85 : decode cX5_handOver 85 = .ok (.getfield 68, 3) := by decide +kernel
theorem dX5_handOver_88 : decode cX5_handOver 88 = .ok (.bipush 10, 2) := by decide +kernel
theorem dX5_handOver_90 : decode cX5_handOver 90 = .ok (.iload_n 1, 1) := by decide +kernel
theorem dX5_handOver_91 : decode cX5_handOver 91 = .ok (.imul, 1) := by decide +kernel
theorem dX5_handOver_92 : decode cX5_handOver 92 = .ok (.aload_n 0, 1) := by decide +kernel
theorem dX5_handOver_93 : decode cX5_handOver 93 = .ok (.getfield 62, 3) := by decide +kernel
theorem dX5_handOver_96 : decode cX5_handOver 96 = .ok (.iload_n 1, 1) := by decide +kernel
theorem dX5_handOver_97 : decode cX5_handOver 97 = .ok (.iaload, 1) := by decide +kernel
theorem dX5_handOver_98 : decode cX5_handOver 98 = .ok (.iadd, 1) := by decide +kernel
theorem dX5_handOver_99 : decode cX5_handOver 99 = .ok (.iload_n 3, 1) := by decide +kernel
theorem dX5_handOver_100 : decode cX5_handOver 100 = .ok (.iastore, 1) := by decide +kernel
theorem dX5_handOver_101 : decode cX5_handOver 101 = .ok (.aload_n 0, 1) := by decide +kernel
theorem dX5_handOver_102 : decode cX5_handOver 102 = .ok (.getfield 62, 3) := by decide +kernel
theorem dX5_handOver_105 : decode cX5_handOver 105 = .ok (.iload_n 1, 1) := by decide +kernel
theorem dX5_handOver_106 : decode cX5_handOver 106 = .ok (.dup2, 1) := by decide +kernel
theorem dX5_handOver_107 : decode cX5_handOver 107 = .ok (.iaload, 1) := by decide +kernel
theorem dX5_handOver_108 : decode cX5_handOver 108 = .ok (.iconst 1, 1) := by decide +kernel
theorem dX5_handOver_109 : decode cX5_handOver 109 = .ok (.iadd, 1) := by decide +kernel
theorem dX5_handOver_110 : decode cX5_handOver 110 = .ok (.iastore, 1) := by decide +kernel
theorem dX5_handOver_111 : decode cX5_handOver 111 = .ok (.iload 4, 2) := by decide +kernel
theorem dX5_handOver_113 : decode cX5_handOver 113 = .ok (.ireturn, 1) := by decide +kernel
theorem dX5_areLike_0 : decode cX5_areLike 0 = .ok (.aload_n 0, 1) := by decide +kernel
theorem dX5_areLike_1 : decode cX5_areLike 1 = .ok (.getfield 32, 3) := by decide +kernel
theorem dX5_areLike_4 : decode cX5_areLike 4 = .ok (.iload_n 1, 1) := by decide +kernel
theorem dX5_areLike_5 : decode cX5_areLike 5 = .ok (.iaload, 1) := by decide +kernel
theorem dX5_areLike_6 : decode cX5_areLike 6 = .ok (.aload_n 0, 1) := by decide +kernel
theorem dX5_areLike_7 : decode cX5_areLike 7 = .ok (.getfield 32, 3) := by decide +kernel
theorem dX5_areLike_10 : decode cX5_areLike 10 = .ok (.iload_n 2, 1) := by decide +kernel
theorem dX5_areLike_11 : decode cX5_areLike 11 = .ok (.iaload, 1) := by decide +kernel
theorem dX5_areLike_12 : decode cX5_areLike 12 = .ok (.if_icmp .ne 52, 3) := by decide +kernel
theorem dX5_areLike_15 : decode cX5_areLike 15 = .ok (.aload_n 0, 1) := by decide +kernel
theorem dX5_areLike_16 : decode cX5_areLike 16 = .ok (.getfield 44, 3) := by decide +kernel
theorem dX5_areLike_19 : decode cX5_areLike 19 = .ok (.iload_n 1, 1) := by decide +kernel
theorem dX5_areLike_20 : decode cX5_areLike 20 = .ok (.iaload, 1) := by decide +kernel
theorem dX5_areLike_21 : decode cX5_areLike 21 = .ok (.aload_n 0, 1) := by decide +kernel
theorem dX5_areLike_22 : decode cX5_areLike 22 = .ok (.getfield 44, 3) := by decide +kernel
theorem dX5_areLike_25 : decode cX5_areLike 25 = .ok (.iload_n 2, 1) := by decide +kernel
theorem dX5_areLike_26 : decode cX5_areLike 26 = .ok (.iaload, 1) := by decide +kernel
theorem dX5_areLike_27 : decode cX5_areLike 27 = .ok (.if_icmp .ne 37, 3) := by decide +kernel
theorem dX5_areLike_30 : decode cX5_areLike 30 = .ok (.aload_n 0, 1) := by decide +kernel
theorem dX5_areLike_31 : decode cX5_areLike 31 = .ok (.getfield 35, 3) := by decide +kernel
theorem dX5_areLike_34 : decode cX5_areLike 34 = .ok (.iload_n 1, 1) := by decide +kernel
theorem dX5_areLike_35 : decode cX5_areLike 35 = .ok (.iaload, 1) := by decide +kernel
theorem dX5_areLike_36 : decode cX5_areLike 36 = .ok (.aload_n 0, 1) := by decide +kernel
theorem dX5_areLike_37 : decode cX5_areLike 37 = .ok (.getfield 35, 3) := by decide +kernel
theorem dX5_areLike_40 : decode cX5_areLike 40 = .ok (.iload_n 2, 1) := by decide +kernel
theorem dX5_areLike_41 : decode cX5_areLike 41 = .ok (.iaload, 1) := by decide +kernel
theorem dX5_areLike_42 : decode cX5_areLike 42 = .ok (.if_icmp .ne 22, 3) := by decide +kernel
theorem dX5_areLike_45 : decode cX5_areLike 45 = .ok (.aload_n 0, 1) := by decide +kernel
theorem dX5_areLike_46 : decode cX5_areLike 46 = .ok (.getfield 38, 3) := by decide +kernel
theorem dX5_areLike_49 : decode cX5_areLike 49 = .ok (.iload_n 1, 1) := by decide +kernel
theorem dX5_areLike_50 : decode cX5_areLike 50 = .ok (.iaload, 1) := by decide +kernel
theorem dX5_areLike_51 : decode cX5_areLike 51 = .ok (.aload_n 0, 1) := by decide +kernel
theorem dX5_areLike_52 : decode cX5_areLike 52 = .ok (.getfield 38, 3) := by decide +kernel
theorem dX5_areLike_55 : decode cX5_areLike 55 = .ok (.iload_n 2, 1) := by decide +kernel
theorem dX5_areLike_56 : decode cX5_areLike 56 = .ok (.iaload, 1) := by decide +kernel
theorem dX5_areLike_57 : decode cX5_areLike 57 = .ok (.if_icmp .ne 7, 3) := by decide +kernel
theorem dX5_areLike_60 : decode cX5_areLike 60 = .ok (.iconst 1, 1) := by decide +kernel
theorem dX5_areLike_61 : decode cX5_areLike 61 = .ok (.goto 4, 3) := by decide +kernel
theorem dX5_areLike_64 : decode cX5_areLike 64 = .ok (.iconst 0, 1) := by decide +kernel
theorem dX5_areLike_65 : decode cX5_areLike 65 = .ok (.istore_n 3, 1) := by decide +kernel
theorem dX5_areLike_66 : decode cX5_areLike 66 = .ok (.iload_n 3, 1) := by decide +kernel
theorem dX5_areLike_67 : decode cX5_areLike 67 = .ok (.ifCond .eq 67, 3) := by decide +kernel
theorem dX5_areLike_70 : decode cX5_areLike 70 = .ok (.aload_n 0, 1) := by decide +kernel
theorem dX5_areLike_71 : decode cX5_areLike 71 = .ok (.getfield 41, 3) := by decide +kernel
theorem dX5_areLike_74 : decode cX5_areLike 74 = .ok (.iload_n 1, 1) := by decide +kernel
theorem dX5_areLike_75 : decode cX5_areLike 75 = .ok (.iaload, 1) := by decide +kernel
theorem dX5_areLike_76 : decode cX5_areLike 76 = .ok (.aload_n 0, 1) := by decide +kernel
theorem dX5_areLike_77 : decode cX5_areLike 77 = .ok (.getfield 41, 3) := by decide +kernel
theorem dX5_areLike_80 : decode cX5_areLike 80 = .ok (.iload_n 2, 1) := by decide +kernel
theorem dX5_areLike_81 : decode cX5_areLike 81 = .ok (.iaload, 1) := by decide +kernel
theorem dX5_areLike_82 : decode cX5_areLike 82 = .ok (.if_icmp .ne 52, 3) := by decide +kernel
theorem dX5_areLike_85 : decode cX5_areLike 85 = .ok (.aload_n 0, 1) := by decide +kernel
theorem dX5_areLike_86 : decode cX5_areLike 86 = .ok (.getfield 47, 3) := by decide +kernel
theorem dX5_areLike_89 : decode cX5_areLike 89 = .ok (.iload_n 1, 1) := by decide +kernel
theorem dX5_areLike_90 : decode cX5_areLike 90 = .ok (.iaload, 1) := by decide +kernel
theorem dX5_areLike_91 : decode cX5_areLike 91 = .ok (.aload_n 0, 1) := by decide +kernel
theorem dX5_areLike_92 : decode cX5_areLike 92 = .ok (.getfield 47, 3) := by decide +kernel
theorem dX5_areLike_95 : decode cX5_areLike 95 = .ok (.iload_n 2, 1) := by decide +kernel
theorem dX5_areLike_96 : decode cX5_areLike 96 = .ok (.iaload, 1) := by decide +kernel
theorem dX5_areLike_97 : decode cX5_areLike 97 = .ok (.if_icmp .ne 37, 3) := by decide +kernel
theorem dX5_areLike_100 : decode cX5_areLike 100 = .ok (.aload_n 0, 1) := by decide +kernel
theorem dX5_areLike_101 : decode cX5_areLike 101 = .ok (.getfield 50, 3) := by decide +kernel
theorem dX5_areLike_104 : decode cX5_areLike 104 = .ok (.iload_n 1, 1) := by decide +kernel
theorem dX5_areLike_105 : decode cX5_areLike 105 = .ok (.iaload, 1) := by decide +kernel
theorem dX5_areLike_106 : decode cX5_areLike 106 = .ok (.aload_n 0, 1) := by decide +kernel
theorem dX5_areLike_107 : decode cX5_areLike 107 = .ok (.getfield 50, 3) := by decide +kernel
theorem dX5_areLike_110 : decode cX5_areLike 110 = .ok (.iload_n 2, 1) := by decide +kernel
theorem dX5_areLike_111 : decode cX5_areLike 111 = .ok (.iaload, 1) := by decide +kernel
theorem dX5_areLike_112 : decode cX5_areLike 112 = .ok (.if_icmp .ne 22, 3) := by decide +kernel
theorem dX5_areLike_115 : decode cX5_areLike 115 = .ok (.aload_n 0, 1) := by decide +kernel
theorem dX5_areLike_116 : decode cX5_areLike 116 = .ok (.getfield 29, 3) := by decide +kernel
theorem dX5_areLike_119 : decode cX5_areLike 119 = .ok (.iload_n 1, 1) := by decide +kernel
theorem dX5_areLike_120 : decode cX5_areLike 120 = .ok (.baload, 1) := by decide +kernel
theorem dX5_areLike_121 : decode cX5_areLike 121 = .ok (.aload_n 0, 1) := by decide +kernel
theorem dX5_areLike_122 : decode cX5_areLike 122 = .ok (.getfield 29, 3) := by decide +kernel
theorem dX5_areLike_125 : decode cX5_areLike 125 = .ok (.iload_n 2, 1) := by decide +kernel
theorem dX5_areLike_126 : decode cX5_areLike 126 = .ok (.baload, 1) := by decide +kernel
theorem dX5_areLike_127 : decode cX5_areLike 127 = .ok (.if_icmp .eq 7, 3) := by decide +kernel
theorem dX5_areLike_130 : decode cX5_areLike 130 = .ok (.iconst 1, 1) := by decide +kernel
theorem dX5_areLike_131 : decode cX5_areLike 131 = .ok (.goto 4, 3) := by decide +kernel
theorem dX5_areLike_134 : decode cX5_areLike 134 = .ok (.iconst 0, 1) := by decide +kernel
theorem dX5_areLike_135 : decode cX5_areLike 135 = .ok (.ireturn, 1) := by decide +kernel
theorem dX5_haveOneParty_0 : decode cX5_haveOneParty 0 = .ok (.iconst 0, 1) := by decide +kernel
theorem dX5_haveOneParty_1 : decode cX5_haveOneParty 1 = .ok (.istore 4, 2) := by decide +kernel
theorem dX5_haveOneParty_3 : decode cX5_haveOneParty 3 = .ok (.iconst 1, 1) := by decide +kernel
theorem dX5_haveOneParty_4 : decode cX5_haveOneParty 4 = .ok (.istore 5, 2) := by decide +kernel
theorem dX5_haveOneParty_6 : decode cX5_haveOneParty 6 = .ok (.iconst 0, 1) := by decide +kernel
theorem dX5_haveOneParty_7 : decode cX5_haveOneParty 7 = .ok (.istore 6, 2) := by decide +kernel
theorem dX5_haveOneParty_9 : decode cX5_haveOneParty 9 = .ok (.iload 6, 2) := by decide +kernel
theorem dX5_haveOneParty_11 : decode cX5_haveOneParty 11 = .ok (.aload_n 0, 1) := by decide +kernel
theorem dX5_haveOneParty_12 : decode cX5_haveOneParty 12 = .ok (.getfield 41, 3) := by decide +kernel
theorem dX5_haveOneParty_15 : decode cX5_haveOneParty 15 = .ok (.iload_n 1, 1) := by decide +kernel
theorem dX5_haveOneParty_16 : decode cX5_haveOneParty 16 = .ok (.iaload, 1) := by decide +kernel
theorem dX5_haveOneParty_17 : decode cX5_haveOneParty 17 = .ok (.if_icmp .ge 66, 3) := by decide +kernel
theorem dX5_haveOneParty_20 : decode cX5_haveOneParty 20 = .ok (.aload_n 0, 1) := by decide +kernel
theorem dX5_haveOneParty_21 : decode cX5_haveOneParty 21 = .ok (.iload_n 1, 1) := by decide +kernel
theorem dX5_haveOneParty_22 : decode cX5_haveOneParty 22 = .ok (.iload 6, 2) := by decide +kernel
theorem dX5_haveOneParty_24 : decode cX5_haveOneParty 24 = .ok (.invokevirtual 128, 3) := by decide +kernel
theorem dX5_haveOneParty_27 : decode cX5_haveOneParty 27 = .ok (.iload_n 3, 1) := by decide +kernel
theorem dX5_haveOneParty_28 : decode cX5_haveOneParty 28 = .ok (.if_icmp .lt 49, 3) := by decide +kernel
theorem dX5_haveOneParty_31 : decode cX5_haveOneParty 31 = .ok (.iinc 4 1, 3) := by decide +kernel
theorem dX5_haveOneParty_34 : decode cX5_haveOneParty 34 = .ok (.iload 5, 2) := by decide +kernel
theorem dX5_haveOneParty_36 : decode cX5_haveOneParty 36 = .ok (.ifCond .eq 38, 3) := by decide +kernel
theorem dX5_haveOneParty_39 : decode cX5_haveOneParty 39 = .ok (.aload_n 0, 1) := by decide +kernel
theorem dX5_haveOneParty_40 : decode cX5_haveOneParty 40 = .ok (.iload_n 1, 1) := by decide +kernel
theorem dX5_haveOneParty_41 : decode cX5_haveOneParty 41 = .ok (.aload_n 0, 1) := by decide +kernel
theorem dX5_haveOneParty_42 : decode cX5_haveOneParty 42 = .ok (.iload_n 1, 1) := by decide +kernel
theorem dX5_haveOneParty_43 : decode cX5_haveOneParty 43 = .ok (.iload 6, 2) := by decide +kernel
theorem dX5_haveOneParty_45 : decode cX5_haveOneParty 45 = .ok (.iconst 1, 1) := by decide +kernel
theorem dX5_haveOneParty_46 : decode cX5_haveOneParty 46 = .ok (.iadd, 1) := by decide +kernel
theorem dX5_haveOneParty_47 : decode cX5_haveOneParty 47 = .ok (.invokevirtual 128, 3) := by decide +kernel
theorem dX5_haveOneParty_50 : decode cX5_haveOneParty 50 = .ok (.invokevirtual 125, 3) := by decide +kernel
theorem dX5_haveOneParty_53 : decode cX5_haveOneParty 53 = .ok (.aload_n 0, 1) := by decide +kernel
theorem dX5_haveOneParty_54 : decode cX5_haveOneParty 54 = .ok (.iload_n 2, 1) := by decide +kernel
theorem dX5_haveOneParty_55 : decode cX5_haveOneParty 55 = .ok (.aload_n 0, 1) := by decide +kernel
theorem dX5_haveOneParty_56 : decode cX5_haveOneParty 56 = .ok (.iload_n 1, 1) := by decide +kernel
theorem dX5_haveOneParty_57 : decode cX5_haveOneParty 57 = .ok (.iload 6, 2) := by decide +kernel
theorem dX5_haveOneParty_59 : decode cX5_haveOneParty 59 = .ok (.iconst 1, 1) := by decide +kernel
theorem dX5_haveOneParty_60 : decode cX5_haveOneParty 60 = .ok (.iadd, 1) := by decide +kernel
theorem dX5_haveOneParty_61 : decode cX5_haveOneParty 61 = .ok (.invokevirtual 128, 3) := by decide +kernel
theorem dX5_haveOneParty_64 : decode cX5_haveOneParty 64 = .ok (.invokevirtual 125, 3) := by decide +kernel
theorem dX5_haveOneParty_67 : decode cX5_haveOneParty 67 = .ok (.if_icmp .ne 7, 3) := by decide +kernel
theorem dX5_haveOneParty_70 : decode cX5_haveOneParty 70 = .ok (.iconst 1, 1) := by decide +kernel
theorem dX5_haveOneParty_71 : decode cX5_haveOneParty 71 = .ok (.goto 4, 3) := by decide +kernel
theorem dX5_haveOneParty_74 : decode cX5_haveOneParty 74 = .ok (.iconst 0, 1) := by decide +kernel
theorem dX5_haveOneParty_75 : decode cX5_haveOneParty 75 = .ok (.istore 5, 2) := by decide +kernel
theorem dX5_haveOneParty_77 : decode cX5_haveOneParty 77 = .ok (.iinc 6 1, 3) := by decide +kernel
theorem dX5_haveOneParty_80 : decode cX5_haveOneParty 80 = .ok (.goto (-71), 3) := by decide +kernel
theorem dX5_haveOneParty_83 : decode cX5_haveOneParty 83 = .ok (.iload 5, 2) := by decide +kernel
theorem dX5_haveOneParty_85 : decode cX5_haveOneParty 85 = .ok (.ifCond .eq 12, 3) := by decide +kernel
theorem dX5_haveOneParty_88 : decode cX5_haveOneParty 88 = .ok (.iload 4, 2) := by decide +kernel
theorem dX5_haveOneParty_90 : decode cX5_haveOneParty 90 = .ok (.ifCond .le 7, 3) := by decide +kernel
theorem dX5_haveOneParty_93 : decode cX5_haveOneParty 93 = .ok (.iconst 1, 1) := by decide +kernel
theorem dX5_haveOneParty_94 : decode cX5_haveOneParty 94 = .ok (.goto 4, 3) := by decide +kernel
theorem dX5_haveOneParty_97 : decode cX5_haveOneParty 97 = .ok (.iconst 0, 1) := by decide +kernel
theorem dX5_haveOneParty_98 : decode cX5_haveOneParty 98 = .ok (.ireturn, 1) := by decide +kernel
theorem dX5_press_0 : decode cX5_press 0 = .ok (.aload_n 0, 1) := by decide +kernel
theorem dX5_press_1 : decode cX5_press 1 = .ok (.iload_n 1, 1) := by decide +kernel
theorem dX5_press_2 : decode cX5_press 2 = .ok (.invokestatic 89, 3) := by decide +kernel
theorem dX5_press_5 : decode cX5_press 5 = .ok (.ifCond .eq 7, 3) := by decide +kernel
theorem dX5_press_8 : decode cX5_press 8 = .ok (.iconst 0, 1) := by decide +kernel
theorem dX5_press_9 : decode cX5_press 9 = .ok (.goto 4, 3) := by decide +kernel
theorem dX5_press_12 : decode cX5_press 12 = .ok (.iconst 1, 1) := by decide +kernel
theorem dX5_press_13 : decode cX5_press 13 = .ok (.putfield 71, 3) := by decide +kernel
theorem dX5_press_16 : decode cX5_press 16 = .ok (.iconst 0, 1) := by decide +kernel
theorem dX5_press_17 : decode cX5_press 17 = .ok (.istore_n 2, 1) := by decide +kernel
theorem dX5_press_18 : decode cX5_press 18 = .ok (.iconst 0, 1) := by decide +kernel
theorem dX5_press_19 : decode cX5_press 19 = .ok (.istore_n 3, 1) := by decide +kernel
theorem dX5_press_20 : decode cX5_press 20 = .ok (.iload_n 3, 1) := by decide +kernel
theorem dX5_press_21 : decode cX5_press 21 = .ok (.aload_n 0, 1) := by decide +kernel
theorem dX5_press_22 : decode cX5_press 22 = .ok (.getfield 79, 3) := by decide +kernel
theorem dX5_press_25 : decode cX5_press 25 = .ok (.if_icmp .ge 114, 3) := by decide +kernel
theorem dX5_press_28 : decode cX5_press 28 = .ok (.aload_n 0, 1) := by decide +kernel
theorem dX5_press_29 : decode cX5_press 29 = .ok (.getfield 71, 3) := by decide +kernel
theorem dX5_press_32 : decode cX5_press 32 = .ok (.ifCond .ne 107, 3) := by decide +kernel
theorem dX5_press_35 : decode cX5_press 35 = .ok (.iload_n 3, 1) := by decide +kernel
theorem dX5_press_36 : decode cX5_press 36 = .ok (.iconst 1, 1) := by decide +kernel
theorem dX5_press_37 : decode cX5_press 37 = .ok (.iadd, 1) := by decide +kernel
theorem dX5_press_38 : decode cX5_press 38 = .ok (.istore 4, 2) := by decide +kernel
theorem dX5_press_40 : decode cX5_press 40 = .ok (.iload 4, 2) := by decide +kernel
theorem dX5_press_42 : decode cX5_press 42 = .ok (.aload_n 0, 1) := by decide +kernel
theorem dX5_press_43 : decode cX5_press 43 = .ok (.getfield 79, 3) := by decide +kernel
theorem dX5_press_46 : decode cX5_press 46 = .ok (.if_icmp .ge 87, 3) := by decide +kernel
theorem dX5_press_49 : decode cX5_press 49 = .ok (.aload_n 0, 1) := by decide +kernel
theorem dX5_press_50 : decode cX5_press 50 = .ok (.iload_n 3, 1) := by decide +kernel
theorem dX5_press_51 : decode cX5_press 51 = .ok (.invokevirtual 118, 3) := by decide +kernel
theorem dX5_press_54 : decode cX5_press 54 = .ok (.aload_n 0, 1) := by decide +kernel
theorem dX5_press_55 : decode cX5_press 55 = .ok (.iload 4, 2) := by decide +kernel
theorem dX5_press_57 : decode cX5_press 57 = .ok (.invokevirtual 118, 3) := by decide +kernel
theorem dX5_press_60 : decode cX5_press 60 = .ok (.if_icmp .ge 11, 3) := by decide +kernel
theorem dX5_press_63 : decode cX5_press 63 = .ok (.aload_n 0, 1) := by decide +kernel
theorem dX5_press_64 : decode cX5_press 64 = .ok (.iload_n 3, 1) := by decide +kernel
theorem dX5_press_65 : decode cX5_press 65 = .ok (.invokevirtual 118, 3) := by decide +kernel
theorem dX5_press_68 : decode cX5_press 68 = .ok (.goto 9, 3) := by decide +kernel
theorem dX5_press_71 : decode cX5_press 71 = .ok (.aload_n 0, 1) := by decide +kernel
theorem dX5_press_72 : decode cX5_press 72 = .ok (.iload 4, 2) := by decide +kernel
theorem dX5_press_74 : decode cX5_press 74 = .ok (.invokevirtual 118, 3) := by decide +kernel
theorem dX5_press_77 : decode cX5_press 77 = .ok (.istore 5, 2) := by decide +kernel
theorem dX5_press_79 : decode cX5_press 79 = .ok (.iload 5, 2) := by decide +kernel
theorem dX5_press_81 : decode cX5_press 81 = .ok (.ifCond .le 46, 3) := by decide +kernel
theorem dX5_press_84 : decode cX5_press 84 = .ok (.aload_n 0, 1) := by decide +kernel
theorem dX5_press_85 : decode cX5_press 85 = .ok (.iload_n 3, 1) := by decide +kernel
theorem dX5_press_86 : decode cX5_press 86 = .ok (.iload 4, 2) := by decide +kernel
theorem dX5_press_88 : decode cX5_press 88 = .ok (.invokevirtual 131, 3) := by decide +kernel
theorem dX5_press_91 : decode cX5_press 91 = .ok (.ifCond .eq 36, 3) := by decide +kernel
theorem dX5_press_94 : decode cX5_press 94 = .ok (.aload_n 0, 1) := by decide +kernel
theorem dX5_press_95 : decode cX5_press 95 = .ok (.iload_n 3, 1) := by decide +kernel
theorem dX5_press_96 : decode cX5_press 96 = .ok (.iload 4, 2) := by decide +kernel
theorem dX5_press_98 : decode cX5_press 98 = .ok (.iload_n 1, 1) := by decide +kernel
theorem dX5_press_99 : decode cX5_press 99 = .ok (.invokevirtual 135, 3) := by decide +kernel
theorem dX5_press_102 : decode cX5_press 102 = .ok (.ifCond .eq 25, 3) := by decide +kernel
theorem dX5_press_105 : decode cX5_press 105 = .ok (.aload_n 0, 1) := by decide +kernel
theorem dX5_press_106 : decode cX5_press 106 = .ok (.iload_n 3, 1) := by decide +kernel
theorem dX5_press_107 : decode cX5_press 107 = .ok (.iload_n 1, 1) := by decide +kernel
theorem dX5_press_108 : decode cX5_press 108 = .ok (.iload 5, 2) := by decide +kernel
theorem dX5_press_110 : decode cX5_press 110 = .ok (.invokevirtual 121, 3) := by decide +kernel
theorem dX5_press_113 : decode cX5_press 113 = .ok (.aload_n 0, 1) := by decide +kernel
theorem dX5_press_114 : decode cX5_press 114 = .ok (.iload 4, 2) := by decide +kernel
theorem dX5_press_116 : decode cX5_press 116 = .ok (.iload_n 1, 1) := by decide +kernel
theorem dX5_press_117 : decode cX5_press 117 = .ok (.iload 5, 2) := by decide +kernel
theorem dX5_press_119 : decode cX5_press 119 = .ok (.invokevirtual 121, 3) := by decide +kernel
theorem dX5_press_122 : decode cX5_press 122 = .ok (.iload_n 2, 1) := by decide +kernel
theorem dX5_press_123 : decode cX5_press 123 = .ok (.iload 5, 2) := by decide +kernel
theorem dX5_press_125 : decode cX5_press 125 = .ok (.iadd, 1) := by decide +kernel
theorem dX5_press_126 : decode cX5_press 126 = .ok (.istore_n 2, 1) := by decide +kernel
theorem dX5_press_127 : decode cX5_press 127 = .ok (.iinc 4 1, 3) := by decide +kernel
theorem dX5_press_130 : decode cX5_press 130 = .ok (.goto (-90), 3) := by decide +kernel
theorem dX5_press_133 : decode cX5_press 133 = .ok (.iinc 3 1, 3) := by decide +kernel
theorem dX5_press_136 : decode cX5_press 136 = .ok (.goto (-116), 3) := by decide +kernel
theorem dX5_press_139 : decode cX5_press 139 = .ok (.iload_n 2, 1) := by decide +kernel
theorem dX5_press_140 : decode cX5_press 140 = .ok (.ireturn, 1) := by decide +kernel
theorem dX5_trades_0 : decode cX5_trades 0 = .ok (.aload_n 0, 1) := by decide +kernel
theorem dX5_trades_1 : decode cX5_trades 1 = .ok (.iconst 0, 1) := by decide +kernel
theorem dX5_trades_2 : decode cX5_trades 2 = .ok (.putfield 71, 3) := by decide +kernel
theorem dX5_trades_5 : decode cX5_trades 5 = .ok (.aload_n 0, 1) := by decide +kernel
theorem dX5_trades_6 : decode cX5_trades 6 = .ok (.getfield 79, 3) := by decide +kernel
theorem dX5_trades_9 : decode cX5_trades 9 = .ok (.ireturn, 1) := by decide +kernel
theorem dX5_begins_0 : decode cX5_begins 0 = .ok (.aload_n 0, 1) := by decide +kernel
theorem dX5_begins_1 : decode cX5_begins 1 = .ok (.aload_n 0, 1) := by decide +kernel
theorem dX5_begins_2 : decode cX5_begins 2 = .ok (.getfield 35, 3) := by decide +kernel
theorem dX5_begins_5 : decode cX5_begins 5 = .ok (.iload_n 1, 1) := by decide +kernel
theorem dX5_begins_6 : decode cX5_begins 6 = .ok (.iaload, 1) := by decide +kernel
theorem dX5_begins_7 : decode cX5_begins 7 = .ok (.iload_n 2, 1) := by decide +kernel
theorem dX5_begins_8 : decode cX5_begins 8 = .ok (.aload_n 0, 1) := by decide +kernel
theorem dX5_begins_9 : decode cX5_begins 9 = .ok (.getfield 38, 3) := by decide +kernel
theorem dX5_begins_12 : decode cX5_begins 12 = .ok (.iload_n 1, 1) := by decide +kernel
theorem dX5_begins_13 : decode cX5_begins 13 = .ok (.iaload, 1) := by decide +kernel
theorem dX5_begins_14 : decode cX5_begins 14 = .ok (.imul, 1) := by decide +kernel
theorem dX5_begins_15 : decode cX5_begins 15 = .ok (.iadd, 1) := by decide +kernel
theorem dX5_begins_16 : decode cX5_begins 16 = .ok (.invokevirtual 92, 3) := by decide +kernel
theorem dX5_begins_19 : decode cX5_begins 19 = .ok (.ireturn, 1) := by decide +kernel
theorem dX5_days_0 : decode cX5_days 0 = .ok (.aload_n 0, 1) := by decide +kernel
theorem dX5_days_1 : decode cX5_days 1 = .ok (.getfield 47, 3) := by decide +kernel
theorem dX5_days_4 : decode cX5_days 4 = .ok (.iload_n 1, 1) := by decide +kernel
theorem dX5_days_5 : decode cX5_days 5 = .ok (.iaload, 1) := by decide +kernel
theorem dX5_days_6 : decode cX5_days 6 = .ok (.iconst 1, 1) := by decide +kernel
theorem dX5_days_7 : decode cX5_days 7 = .ok (.if_icmp .ne 12, 3) := by decide +kernel
theorem dX5_days_10 : decode cX5_days 10 = .ok (.aload_n 0, 1) := by decide +kernel
theorem dX5_days_11 : decode cX5_days 11 = .ok (.getfield 38, 3) := by decide +kernel
theorem dX5_days_14 : decode cX5_days 14 = .ok (.iload_n 1, 1) := by decide +kernel
theorem dX5_days_15 : decode cX5_days 15 = .ok (.iaload, 1) := by decide +kernel
theorem dX5_days_16 : decode cX5_days 16 = .ok (.goto 18, 3) := by decide +kernel
theorem dX5_days_19 : decode cX5_days 19 = .ok (.aload_n 0, 1) := by decide +kernel
theorem dX5_days_20 : decode cX5_days 20 = .ok (.iload_n 1, 1) := by decide +kernel
theorem dX5_days_21 : decode cX5_days 21 = .ok (.iload_n 2, 1) := by decide +kernel
theorem dX5_days_22 : decode cX5_days 22 = .ok (.iconst 1, 1) := by decide +kernel
theorem dX5_days_23 : decode cX5_days 23 = .ok (.iadd, 1) := by decide +kernel
theorem dX5_days_24 : decode cX5_days 24 = .ok (.invokevirtual 128, 3) := by decide +kernel
theorem dX5_days_27 : decode cX5_days 27 = .ok (.aload_n 0, 1) := by decide +kernel
theorem dX5_days_28 : decode cX5_days 28 = .ok (.iload_n 1, 1) := by decide +kernel
theorem dX5_days_29 : decode cX5_days 29 = .ok (.iload_n 2, 1) := by decide +kernel
theorem dX5_days_30 : decode cX5_days 30 = .ok (.invokevirtual 128, 3) := by decide +kernel
theorem dX5_days_33 : decode cX5_days 33 = .ok (.isub, 1) := by decide +kernel
theorem dX5_days_34 : decode cX5_days 34 = .ok (.ireturn, 1) := by decide +kernel
theorem dX5_lotsOf_0 : decode cX5_lotsOf 0 = .ok (.aload_n 0, 1) := by decide +kernel
theorem dX5_lotsOf_1 : decode cX5_lotsOf 1 = .ok (.getfield 26, 3) := by decide +kernel
theorem dX5_lotsOf_4 : decode cX5_lotsOf 4 = .ok (.iload_n 1, 1) := by decide +kernel
theorem dX5_lotsOf_5 : decode cX5_lotsOf 5 = .ok (.iaload, 1) := by decide +kernel
theorem dX5_lotsOf_6 : decode cX5_lotsOf 6 = .ok (.aload_n 0, 1) := by decide +kernel
theorem dX5_lotsOf_7 : decode cX5_lotsOf 7 = .ok (.iload_n 1, 1) := by decide +kernel
theorem dX5_lotsOf_8 : decode cX5_lotsOf 8 = .ok (.aload_n 0, 1) := by decide +kernel
theorem dX5_lotsOf_9 : decode cX5_lotsOf 9 = .ok (.iload_n 1, 1) := by decide +kernel
theorem dX5_lotsOf_10 : decode cX5_lotsOf 10 = .ok (.iload_n 2, 1) := by decide +kernel
theorem dX5_lotsOf_11 : decode cX5_lotsOf 11 = .ok (.invokevirtual 128, 3) := by decide +kernel
theorem dX5_lotsOf_14 : decode cX5_lotsOf 14 = .ok (.invokevirtual 111, 3) := by decide +kernel
theorem dX5_lotsOf_17 : decode cX5_lotsOf 17 = .ok (.isub, 1) := by decide +kernel
theorem dX5_lotsOf_18 : decode cX5_lotsOf 18 = .ok (.ireturn, 1) := by decide +kernel
theorem dX5_floor_0 : decode cX5_floor 0 = .ok (.lload_n 0, 1) := by decide +kernel
theorem dX5_floor_1 : decode cX5_floor 1 = .ok (.lload_n 2, 1) := by decide +kernel
theorem dX5_floor_2 : decode cX5_floor 2 = .ok (.ldiv, 1) := by decide +kernel
theorem dX5_floor_3 : decode cX5_floor 3 = .ok (.lstore 4, 2) := by decide +kernel
theorem dX5_floor_5 : decode cX5_floor 5 = .ok (.lload 4, 2) := by decide +kernel
theorem dX5_floor_7 : decode cX5_floor 7 = .ok (.lload_n 2, 1) := by decide +kernel
theorem dX5_floor_8 : decode cX5_floor 8 = .ok (.lmul, 1) := by decide +kernel
theorem dX5_floor_9 : decode cX5_floor 9 = .ok (.lload_n 0, 1) := by decide +kernel
theorem dX5_floor_10 : decode cX5_floor 10 = .ok (.lcmp, 1) := by decide +kernel
theorem dX5_floor_11 : decode cX5_floor 11 = .ok (.ifCond .le 10, 3) := by decide +kernel
theorem dX5_floor_14 : decode cX5_floor 14 = .ok (.lload 4, 2) := by decide +kernel
theorem dX5_floor_16 : decode cX5_floor 16 = .ok (.lconst 1, 1) := by decide +kernel
theorem dX5_floor_17 : decode cX5_floor 17 = .ok (.lsub, 1) := by decide +kernel
theorem dX5_floor_18 : decode cX5_floor 18 = .ok (.goto 5, 3) := by decide +kernel
theorem dX5_floor_21 : decode cX5_floor 21 = .ok (.lload 4, 2) := by decide +kernel
theorem dX5_floor_23 : decode cX5_floor 23 = .ok (.lreturn, 1) := by decide +kernel
theorem dX5_floats_0 : decode cX5_floats 0 = .ok (.lconst 0, 1) := by decide +kernel
theorem dX5_floats_1 : decode cX5_floats 1 = .ok (.lstore_n 3, 1) := by decide +kernel
theorem dX5_floats_2 : decode cX5_floats 2 = .ok (.lconst 0, 1) := by decide +kernel
theorem dX5_floats_3 : decode cX5_floats 3 = .ok (.lstore 5, 2) := by decide +kernel
theorem dX5_floats_5 : decode cX5_floats 5 = .ok (.iconst 0, 1) := by decide +kernel
theorem dX5_floats_6 : decode cX5_floats 6 = .ok (.istore 7, 2) := by decide +kernel
theorem dX5_floats_8 : decode cX5_floats 8 = .ok (.iload 7, 2) := by decide +kernel
theorem dX5_floats_10 : decode cX5_floats 10 = .ok (.iload_n 2, 1) := by decide +kernel
theorem dX5_floats_11 : decode cX5_floats 11 = .ok (.if_icmp .gt 139, 3) := by decide +kernel
theorem dX5_floats_14 : decode cX5_floats 14 = .ok (.aload_n 0, 1) := by decide +kernel
theorem dX5_floats_15 : decode cX5_floats 15 = .ok (.aload_n 0, 1) := by decide +kernel
theorem dX5_floats_16 : decode cX5_floats 16 = .ok (.iload_n 1, 1) := by decide +kernel
theorem dX5_floats_17 : decode cX5_floats 17 = .ok (.iload 7, 2) := by decide +kernel
theorem dX5_floats_19 : decode cX5_floats 19 = .ok (.invokevirtual 128, 3) := by decide +kernel
theorem dX5_floats_22 : decode cX5_floats 22 = .ok (.invokevirtual 102, 3) := by decide +kernel
theorem dX5_floats_25 : decode cX5_floats 25 = .ok (.i2l, 1) := by decide +kernel
theorem dX5_floats_26 : decode cX5_floats 26 = .ok (.lstore 8, 2) := by decide +kernel
theorem dX5_floats_28 : decode cX5_floats 28 = .ok (.aload_n 0, 1) := by decide +kernel
theorem dX5_floats_29 : decode cX5_floats 29 = .ok (.iload_n 1, 1) := by decide +kernel
theorem dX5_floats_30 : decode cX5_floats 30 = .ok (.iload 7, 2) := by decide +kernel
theorem dX5_floats_32 : decode cX5_floats 32 = .ok (.invokevirtual 138, 3) := by decide +kernel
theorem dX5_floats_35 : decode cX5_floats 35 = .ok (.i2l, 1) := by decide +kernel
theorem dX5_floats_36 : decode cX5_floats 36 = .ok (.lstore 10, 2) := by decide +kernel
theorem dX5_floats_38 : decode cX5_floats 38 = .ok (.aload_n 0, 1) := by decide +kernel
theorem dX5_floats_39 : decode cX5_floats 39 = .ok (.getfield 50, 3) := by decide +kernel
theorem dX5_floats_42 : decode cX5_floats 42 = .ok (.iload_n 1, 1) := by decide +kernel
theorem dX5_floats_43 : decode cX5_floats 43 = .ok (.iaload, 1) := by decide +kernel
theorem dX5_floats_44 : decode cX5_floats 44 = .ok (.iconst 1, 1) := by decide +kernel
theorem dX5_floats_45 : decode cX5_floats 45 = .ok (.if_icmp .ne 16, 3) := by decide +kernel
theorem dX5_floats_48 : decode cX5_floats 48 = .ok (.lload 8, 2) := by decide +kernel
theorem dX5_floats_50 : decode cX5_floats 50 = .ok (.aload_n 0, 1) := by decide +kernel
theorem dX5_floats_51 : decode cX5_floats 51 = .ok (.getfield 44, 3) := by decide +kernel
theorem dX5_floats_54 : decode cX5_floats 54 = .ok (.iload_n 1, 1) := by decide +kernel
theorem dX5_floats_55 : decode cX5_floats 55 = .ok (.iaload, 1) := by decide +kernel
theorem dX5_floats_56 : decode cX5_floats 56 = .ok (.i2l, 1) := by decide +kernel
theorem dX5_floats_57 : decode cX5_floats 57 = .ok (.ladd, 1) := by decide +kernel
theorem dX5_floats_58 : decode cX5_floats 58 = .ok (.goto 5, 3) := by decide +kernel
theorem dX5_floats_61 : decode cX5_floats 61 = .ok (.lload 8, 2) := by decide +kernel
theorem dX5_floats_63 : decode cX5_floats 63 = .ok (.lstore 12, 2) := by decide +kernel
theorem dX5_floats_65 : decode cX5_floats 65 = .ok (.ldc2_w 141, 3) := by decide +kernel
theorem dX5_floats_68 : decode cX5_floats 68 = .ok (.lload_n 3, 1) := by decide +kernel
theorem dX5_floats_69 : decode cX5_floats 69 = .ok (.ladd, 1) := by decide +kernel
theorem dX5_floats_70 : decode cX5_floats 70 = .ok (.lload 12, 2) := by decide +kernel
theorem dX5_floats_72 : decode cX5_floats 72 = .ok (.lmul, 1) := by decide +kernel
theorem dX5_floats_73 : decode cX5_floats 73 = .ok (.lload 10, 2) := by decide +kernel
theorem dX5_floats_75 : decode cX5_floats 75 = .ok (.lmul, 1) := by decide +kernel
theorem dX5_floats_76 : decode cX5_floats 76 = .ok (.ldc2_w 141, 3) := by decide +kernel
theorem dX5_floats_79 : decode cX5_floats 79 = .ok (.invokestatic 143, 3) := by decide +kernel
theorem dX5_floats_82 : decode cX5_floats 82 = .ok (.lstore 14, 2) := by decide +kernel
theorem dX5_floats_84 : decode cX5_floats 84 = .ok (.aload_n 0, 1) := by decide +kernel
theorem dX5_floats_85 : decode cX5_floats 85 = .ok (.getfield 50, 3) := by decide +kernel
theorem dX5_floats_88 : decode cX5_floats 88 = .ok (.iload_n 1, 1) := by decide +kernel
theorem dX5_floats_89 : decode cX5_floats 89 = .ok (.iaload, 1) := by decide +kernel
theorem dX5_floats_90 : decode cX5_floats 90 = .ok (.ifCond .ne 19, 3) := by decide +kernel
theorem dX5_floats_93 : decode cX5_floats 93 = .ok (.lload 8, 2) := by decide +kernel
theorem dX5_floats_95 : decode cX5_floats 95 = .ok (.aload_n 0, 1) := by decide +kernel
theorem dX5_floats_96 : decode cX5_floats 96 = .ok (.getfield 44, 3) := by decide +kernel
theorem dX5_floats_99 : decode cX5_floats 99 = .ok (.iload_n 1, 1) := by decide +kernel
theorem dX5_floats_100 : decode cX5_floats 100 = .ok (.iaload, 1) := by decide +kernel
theorem dX5_floats_101 : decode cX5_floats 101 = .ok (.i2l, 1) := by decide +kernel
theorem dX5_floats_102 : decode cX5_floats 102 = .ok (.ladd, 1) := by decide +kernel
theorem dX5_floats_103 : decode cX5_floats 103 = .ok (.lload 10, 2) := by decide +kernel
theorem dX5_floats_105 : decode cX5_floats 105 = .ok (.lmul, 1) := by decide +kernel
theorem dX5_floats_106 : decode cX5_floats 106 = .ok (.goto 31, 3) := by decide +kernel
theorem dX5_floats_109 : decode cX5_floats 109 = .ok (.aload_n 0, 1) := by decide +kernel
theorem dX5_floats_110 : decode cX5_floats 110 = .ok (.getfield 50, 3) := by decide +kernel
theorem dX5_floats_113 : decode cX5_floats 113 = .ok (.iload_n 1, 1) := by decide +kernel
theorem dX5_floats_114 : decode cX5_floats 114 = .ok (.iaload, 1) := by decide +kernel
theorem dX5_floats_115 : decode cX5_floats 115 = .ok (.iconst 1, 1) := by decide +kernel
theorem dX5_floats_116 : decode cX5_floats 116 = .ok (.if_icmp .ne 8, 3) := by decide +kernel
theorem dX5_floats_119 : decode cX5_floats 119 = .ok (.lload 14, 2) := by decide +kernel
theorem dX5_floats_121 : decode cX5_floats 121 = .ok (.goto 16, 3) := by decide +kernel
theorem dX5_floats_124 : decode cX5_floats 124 = .ok (.lload 14, 2) := by decide +kernel
theorem dX5_floats_126 : decode cX5_floats 126 = .ok (.aload_n 0, 1) := by decide +kernel
theorem dX5_floats_127 : decode cX5_floats 127 = .ok (.getfield 44, 3) := by decide +kernel
theorem dX5_floats_130 : decode cX5_floats 130 = .ok (.iload_n 1, 1) := by decide +kernel
theorem dX5_floats_131 : decode cX5_floats 131 = .ok (.iaload, 1) := by decide +kernel
theorem dX5_floats_132 : decode cX5_floats 132 = .ok (.i2l, 1) := by decide +kernel
theorem dX5_floats_133 : decode cX5_floats 133 = .ok (.lload 10, 2) := by decide +kernel
theorem dX5_floats_135 : decode cX5_floats 135 = .ok (.lmul, 1) := by decide +kernel
theorem dX5_floats_136 : decode cX5_floats 136 = .ok (.ladd, 1) := by decide +kernel
theorem dX5_floats_137 : decode cX5_floats 137 = .ok (.lstore 5, 2) := by decide +kernel
theorem dX5_floats_139 : decode cX5_floats 139 = .ok (.lload_n 3, 1) := by decide +kernel
theorem dX5_floats_140 : decode cX5_floats 140 = .ok (.lload 14, 2) := by decide +kernel
theorem dX5_floats_142 : decode cX5_floats 142 = .ok (.ladd, 1) := by decide +kernel
theorem dX5_floats_143 : decode cX5_floats 143 = .ok (.lstore_n 3, 1) := by decide +kernel
theorem dX5_floats_144 : decode cX5_floats 144 = .ok (.iinc 7 1, 3) := by decide +kernel
theorem dX5_floats_147 : decode cX5_floats 147 = .ok (.goto (-139), 3) := by decide +kernel
theorem dX5_floats_150 : decode cX5_floats 150 = .ok (.lload 5, 2) := by decide +kernel
theorem dX5_floats_152 : decode cX5_floats 152 = .ok (.lreturn, 1) := by decide +kernel
theorem dX5_flowOf_0 : decode cX5_flowOf 0 = .ok (.aload_n 0, 1) := by decide +kernel
theorem dX5_flowOf_1 : decode cX5_flowOf 1 = .ok (.iload_n 1, 1) := by decide +kernel
theorem dX5_flowOf_2 : decode cX5_flowOf 2 = .ok (.iload_n 2, 1) := by decide +kernel
theorem dX5_flowOf_3 : decode cX5_flowOf 3 = .ok (.invokevirtual 147, 3) := by decide +kernel
theorem dX5_flowOf_6 : decode cX5_flowOf 6 = .ok (.aload_n 0, 1) := by decide +kernel
theorem dX5_flowOf_7 : decode cX5_flowOf 7 = .ok (.getfield 32, 3) := by decide +kernel
theorem dX5_flowOf_10 : decode cX5_flowOf 10 = .ok (.iload_n 1, 1) := by decide +kernel
theorem dX5_flowOf_11 : decode cX5_flowOf 11 = .ok (.iaload, 1) := by decide +kernel
theorem dX5_flowOf_12 : decode cX5_flowOf 12 = .ok (.i2l, 1) := by decide +kernel
theorem dX5_flowOf_13 : decode cX5_flowOf 13 = .ok (.aload_n 0, 1) := by decide +kernel
theorem dX5_flowOf_14 : decode cX5_flowOf 14 = .ok (.iload_n 1, 1) := by decide +kernel
theorem dX5_flowOf_15 : decode cX5_flowOf 15 = .ok (.iload_n 2, 1) := by decide +kernel
theorem dX5_flowOf_16 : decode cX5_flowOf 16 = .ok (.invokevirtual 138, 3) := by decide +kernel
theorem dX5_flowOf_19 : decode cX5_flowOf 19 = .ok (.i2l, 1) := by decide +kernel
theorem dX5_flowOf_20 : decode cX5_flowOf 20 = .ok (.lmul, 1) := by decide +kernel
theorem dX5_flowOf_21 : decode cX5_flowOf 21 = .ok (.lsub, 1) := by decide +kernel
theorem dX5_flowOf_22 : decode cX5_flowOf 22 = .ok (.lstore_n 3, 1) := by decide +kernel
theorem dX5_flowOf_23 : decode cX5_flowOf 23 = .ok (.aload_n 0, 1) := by decide +kernel
theorem dX5_flowOf_24 : decode cX5_flowOf 24 = .ok (.iload_n 1, 1) := by decide +kernel
theorem dX5_flowOf_25 : decode cX5_flowOf 25 = .ok (.iload_n 2, 1) := by decide +kernel
theorem dX5_flowOf_26 : decode cX5_flowOf 26 = .ok (.invokevirtual 151, 3) := by decide +kernel
theorem dX5_flowOf_29 : decode cX5_flowOf 29 = .ok (.i2l, 1) := by decide +kernel
theorem dX5_flowOf_30 : decode cX5_flowOf 30 = .ok (.aload_n 0, 1) := by decide +kernel
theorem dX5_flowOf_31 : decode cX5_flowOf 31 = .ok (.getfield 29, 3) := by decide +kernel
theorem dX5_flowOf_34 : decode cX5_flowOf 34 = .ok (.iload_n 1, 1) := by decide +kernel
theorem dX5_flowOf_35 : decode cX5_flowOf 35 = .ok (.baload, 1) := by decide +kernel
theorem dX5_flowOf_36 : decode cX5_flowOf 36 = .ok (.ifCond .eq 7, 3) := by decide +kernel
theorem dX5_flowOf_39 : decode cX5_flowOf 39 = .ok (.lload_n 3, 1) := by decide +kernel
theorem dX5_flowOf_40 : decode cX5_flowOf 40 = .ok (.goto 5, 3) := by decide +kernel
theorem dX5_flowOf_43 : decode cX5_flowOf 43 = .ok (.lload_n 3, 1) := by decide +kernel
theorem dX5_flowOf_44 : decode cX5_flowOf 44 = .ok (.lneg, 1) := by decide +kernel
theorem dX5_flowOf_45 : decode cX5_flowOf 45 = .ok (.lmul, 1) := by decide +kernel
theorem dX5_flowOf_46 : decode cX5_flowOf 46 = .ok (.lreturn, 1) := by decide +kernel
theorem dX5_start_0 : decode cX5_start 0 = .ok (.aload_n 0, 1) := by decide +kernel
theorem dX5_start_1 : decode cX5_start 1 = .ok (.iload_n 1, 1) := by decide +kernel
theorem dX5_start_2 : decode cX5_start 2 = .ok (.iload_n 2, 1) := by decide +kernel
theorem dX5_start_3 : decode cX5_start 3 = .ok (.invokevirtual 154, 3) := by decide +kernel
theorem dX5_start_6 : decode cX5_start 6 = .ok (.ifCond .eq 12, 3) := by decide +kernel
theorem dX5_start_9 : decode cX5_start 9 = .ok (.aload_n 0, 1) := by decide +kernel
theorem dX5_start_10 : decode cX5_start 10 = .ok (.iload_n 1, 1) := by decide +kernel
theorem dX5_start_11 : decode cX5_start 11 = .ok (.iload_n 2, 1) := by decide +kernel
theorem dX5_start_12 : decode cX5_start 12 = .ok (.invokevirtual 128, 3) := by decide +kernel
theorem dX5_start_15 : decode cX5_start 15 = .ok (.goto 4, 3) := by decide +kernel
theorem dX5_start_18 : decode cX5_start 18 = .ok (.iconst 0, 1) := by decide +kernel
theorem dX5_start_19 : decode cX5_start 19 = .ok (.ireturn, 1) := by decide +kernel
theorem dX5_end_0 : decode cX5_end 0 = .ok (.aload_n 0, 1) := by decide +kernel
theorem dX5_end_1 : decode cX5_end 1 = .ok (.iload_n 1, 1) := by decide +kernel
theorem dX5_end_2 : decode cX5_end 2 = .ok (.iload_n 2, 1) := by decide +kernel
theorem dX5_end_3 : decode cX5_end 3 = .ok (.invokevirtual 154, 3) := by decide +kernel
theorem dX5_end_6 : decode cX5_end 6 = .ok (.ifCond .eq 14, 3) := by decide +kernel
theorem dX5_end_9 : decode cX5_end 9 = .ok (.aload_n 0, 1) := by decide +kernel
theorem dX5_end_10 : decode cX5_end 10 = .ok (.iload_n 1, 1) := by decide +kernel
theorem dX5_end_11 : decode cX5_end 11 = .ok (.iload_n 2, 1) := by decide +kernel
theorem dX5_end_12 : decode cX5_end 12 = .ok (.iconst 1, 1) := by decide +kernel
theorem dX5_end_13 : decode cX5_end 13 = .ok (.iadd, 1) := by decide +kernel
theorem dX5_end_14 : decode cX5_end 14 = .ok (.invokevirtual 128, 3) := by decide +kernel
theorem dX5_end_17 : decode cX5_end 17 = .ok (.goto 4, 3) := by decide +kernel
theorem dX5_end_20 : decode cX5_end 20 = .ok (.iconst 0, 1) := by decide +kernel
theorem dX5_end_21 : decode cX5_end 21 = .ok (.ireturn, 1) := by decide +kernel
theorem dX5_lots_0 : decode cX5_lots 0 = .ok (.aload_n 0, 1) := by decide +kernel
theorem dX5_lots_1 : decode cX5_lots 1 = .ok (.iload_n 1, 1) := by decide +kernel
theorem dX5_lots_2 : decode cX5_lots 2 = .ok (.iload_n 2, 1) := by decide +kernel
theorem dX5_lots_3 : decode cX5_lots 3 = .ok (.invokevirtual 154, 3) := by decide +kernel
theorem dX5_lots_6 : decode cX5_lots 6 = .ok (.ifCond .eq 12, 3) := by decide +kernel
theorem dX5_lots_9 : decode cX5_lots 9 = .ok (.aload_n 0, 1) := by decide +kernel
theorem dX5_lots_10 : decode cX5_lots 10 = .ok (.iload_n 1, 1) := by decide +kernel
theorem dX5_lots_11 : decode cX5_lots 11 = .ok (.iload_n 2, 1) := by decide +kernel
theorem dX5_lots_12 : decode cX5_lots 12 = .ok (.invokevirtual 151, 3) := by decide +kernel
theorem dX5_lots_15 : decode cX5_lots 15 = .ok (.goto 4, 3) := by decide +kernel
theorem dX5_lots_18 : decode cX5_lots 18 = .ok (.iconst 0, 1) := by decide +kernel
theorem dX5_lots_19 : decode cX5_lots 19 = .ok (.ireturn, 1) := by decide +kernel
theorem dX5_floating_0 : decode cX5_floating 0 = .ok (.aload_n 0, 1) := by decide +kernel
theorem dX5_floating_1 : decode cX5_floating 1 = .ok (.iload_n 1, 1) := by decide +kernel
theorem dX5_floating_2 : decode cX5_floating 2 = .ok (.iload_n 2, 1) := by decide +kernel
theorem dX5_floating_3 : decode cX5_floating 3 = .ok (.invokevirtual 154, 3) := by decide +kernel
theorem dX5_floating_6 : decode cX5_floating 6 = .ok (.ifCond .eq 12, 3) := by decide +kernel
theorem dX5_floating_9 : decode cX5_floating 9 = .ok (.aload_n 0, 1) := by decide +kernel
theorem dX5_floating_10 : decode cX5_floating 10 = .ok (.iload_n 1, 1) := by decide +kernel
theorem dX5_floating_11 : decode cX5_floating 11 = .ok (.iload_n 2, 1) := by decide +kernel
theorem dX5_floating_12 : decode cX5_floating 12 = .ok (.invokevirtual 147, 3) := by decide +kernel
theorem dX5_floating_15 : decode cX5_floating 15 = .ok (.goto 4, 3) := by decide +kernel
theorem dX5_floating_18 : decode cX5_floating 18 = .ok (.lconst 0, 1) := by decide +kernel
theorem dX5_floating_19 : decode cX5_floating 19 = .ok (.lreturn, 1) := by decide +kernel
theorem dX5_flow_0 : decode cX5_flow 0 = .ok (.aload_n 0, 1) := by decide +kernel
theorem dX5_flow_1 : decode cX5_flow 1 = .ok (.iload_n 1, 1) := by decide +kernel
theorem dX5_flow_2 : decode cX5_flow 2 = .ok (.iload_n 2, 1) := by decide +kernel
theorem dX5_flow_3 : decode cX5_flow 3 = .ok (.invokevirtual 154, 3) := by decide +kernel
theorem dX5_flow_6 : decode cX5_flow 6 = .ok (.ifCond .eq 12, 3) := by decide +kernel
theorem dX5_flow_9 : decode cX5_flow 9 = .ok (.aload_n 0, 1) := by decide +kernel
theorem dX5_flow_10 : decode cX5_flow 10 = .ok (.iload_n 1, 1) := by decide +kernel
theorem dX5_flow_11 : decode cX5_flow 11 = .ok (.iload_n 2, 1) := by decide +kernel
theorem dX5_flow_12 : decode cX5_flow 12 = .ok (.invokevirtual 157, 3) := by decide +kernel
theorem dX5_flow_15 : decode cX5_flow 15 = .ok (.goto 4, 3) := by decide +kernel
theorem dX5_flow_18 : decode cX5_flow 18 = .ok (.lconst 0, 1) := by decide +kernel
theorem dX5_flow_19 : decode cX5_flow 19 = .ok (.lreturn, 1) := by decide +kernel
theorem dX5_partyOn_0 : decode cX5_partyOn 0 = .ok (.aload_n 0, 1) := by decide +kernel
theorem dX5_partyOn_1 : decode cX5_partyOn 1 = .ok (.aload_n 0, 1) := by decide +kernel
theorem dX5_partyOn_2 : decode cX5_partyOn 2 = .ok (.iload_n 1, 1) := by decide +kernel
theorem dX5_partyOn_3 : decode cX5_partyOn 3 = .ok (.invokevirtual 82, 3) := by decide +kernel
theorem dX5_partyOn_6 : decode cX5_partyOn 6 = .ok (.ifCond .ne 7, 3) := by decide +kernel
theorem dX5_partyOn_9 : decode cX5_partyOn 9 = .ok (.iconst 1, 1) := by decide +kernel
theorem dX5_partyOn_10 : decode cX5_partyOn 10 = .ok (.goto 15, 3) := by decide +kernel
theorem dX5_partyOn_13 : decode cX5_partyOn 13 = .ok (.iload_n 2, 1) := by decide +kernel
theorem dX5_partyOn_14 : decode cX5_partyOn 14 = .ok (.invokestatic 89, 3) := by decide +kernel
theorem dX5_partyOn_17 : decode cX5_partyOn 17 = .ok (.ifCond .eq 7, 3) := by decide +kernel
theorem dX5_partyOn_20 : decode cX5_partyOn 20 = .ok (.iconst 0, 1) := by decide +kernel
theorem dX5_partyOn_21 : decode cX5_partyOn 21 = .ok (.goto 4, 3) := by decide +kernel
theorem dX5_partyOn_24 : decode cX5_partyOn 24 = .ok (.iconst 2, 1) := by decide +kernel
theorem dX5_partyOn_25 : decode cX5_partyOn 25 = .ok (.putfield 71, 3) := by decide +kernel
theorem dX5_partyOn_28 : decode cX5_partyOn 28 = .ok (.aload_n 0, 1) := by decide +kernel
theorem dX5_partyOn_29 : decode cX5_partyOn 29 = .ok (.getfield 71, 3) := by decide +kernel
theorem dX5_partyOn_32 : decode cX5_partyOn 32 = .ok (.ifCond .le 7, 3) := by decide +kernel
theorem dX5_partyOn_35 : decode cX5_partyOn 35 = .ok (.iconst 0, 1) := by decide +kernel
theorem dX5_partyOn_36 : decode cX5_partyOn 36 = .ok (.goto 9, 3) := by decide +kernel
theorem dX5_partyOn_39 : decode cX5_partyOn 39 = .ok (.aload_n 0, 1) := by decide +kernel
theorem dX5_partyOn_40 : decode cX5_partyOn 40 = .ok (.iload_n 1, 1) := by decide +kernel
theorem dX5_partyOn_41 : decode cX5_partyOn 41 = .ok (.iload_n 2, 1) := by decide +kernel
theorem dX5_partyOn_42 : decode cX5_partyOn 42 = .ok (.invokevirtual 125, 3) := by decide +kernel
theorem dX5_partyOn_45 : decode cX5_partyOn 45 = .ok (.ireturn, 1) := by decide +kernel
theorem dX5_sum_0 : decode cX5_sum 0 = .ok (.lconst 0, 1) := by decide +kernel
theorem dX5_sum_1 : decode cX5_sum 1 = .ok (.lstore 4, 2) := by decide +kernel
theorem dX5_sum_3 : decode cX5_sum 3 = .ok (.iconst 0, 1) := by decide +kernel
theorem dX5_sum_4 : decode cX5_sum 4 = .ok (.istore 6, 2) := by decide +kernel
theorem dX5_sum_6 : decode cX5_sum 6 = .ok (.iload 6, 2) := by decide +kernel
theorem dX5_sum_8 : decode cX5_sum 8 = .ok (.aload_n 0, 1) := by decide +kernel
theorem dX5_sum_9 : decode cX5_sum 9 = .ok (.getfield 79, 3) := by decide +kernel
theorem dX5_sum_12 : decode cX5_sum 12 = .ok (.if_icmp .ge 81, 3) := by decide +kernel
theorem dX5_sum_15 : decode cX5_sum 15 = .ok (.iconst 0, 1) := by decide +kernel
theorem dX5_sum_16 : decode cX5_sum 16 = .ok (.istore 7, 2) := by decide +kernel
theorem dX5_sum_18 : decode cX5_sum 18 = .ok (.iload 7, 2) := by decide +kernel
theorem dX5_sum_20 : decode cX5_sum 20 = .ok (.aload_n 0, 1) := by decide +kernel
theorem dX5_sum_21 : decode cX5_sum 21 = .ok (.getfield 41, 3) := by decide +kernel
theorem dX5_sum_24 : decode cX5_sum 24 = .ok (.iload 6, 2) := by decide +kernel
theorem dX5_sum_26 : decode cX5_sum 26 = .ok (.iaload, 1) := by decide +kernel
theorem dX5_sum_27 : decode cX5_sum 27 = .ok (.if_icmp .ge 60, 3) := by decide +kernel
theorem dX5_sum_30 : decode cX5_sum 30 = .ok (.aload_n 0, 1) := by decide +kernel
theorem dX5_sum_31 : decode cX5_sum 31 = .ok (.iload 6, 2) := by decide +kernel
theorem dX5_sum_33 : decode cX5_sum 33 = .ok (.iload 7, 2) := by decide +kernel
theorem dX5_sum_35 : decode cX5_sum 35 = .ok (.iconst 1, 1) := by decide +kernel
theorem dX5_sum_36 : decode cX5_sum 36 = .ok (.iadd, 1) := by decide +kernel
theorem dX5_sum_37 : decode cX5_sum 37 = .ok (.invokevirtual 128, 3) := by decide +kernel
theorem dX5_sum_40 : decode cX5_sum 40 = .ok (.istore 8, 2) := by decide +kernel
theorem dX5_sum_42 : decode cX5_sum 42 = .ok (.lload 4, 2) := by decide +kernel
theorem dX5_sum_44 : decode cX5_sum 44 = .ok (.iload 8, 2) := by decide +kernel
theorem dX5_sum_46 : decode cX5_sum 46 = .ok (.iload_n 2, 1) := by decide +kernel
theorem dX5_sum_47 : decode cX5_sum 47 = .ok (.iload_n 3, 1) := by decide +kernel
theorem dX5_sum_48 : decode cX5_sum 48 = .ok (.invokestatic 75, 3) := by decide +kernel
theorem dX5_sum_51 : decode cX5_sum 51 = .ok (.ifCond .eq 26, 3) := by decide +kernel
theorem dX5_sum_54 : decode cX5_sum 54 = .ok (.aload_n 0, 1) := by decide +kernel
theorem dX5_sum_55 : decode cX5_sum 55 = .ok (.iload 6, 2) := by decide +kernel
theorem dX5_sum_57 : decode cX5_sum 57 = .ok (.iload 8, 2) := by decide +kernel
theorem dX5_sum_59 : decode cX5_sum 59 = .ok (.invokevirtual 125, 3) := by decide +kernel
theorem dX5_sum_62 : decode cX5_sum 62 = .ok (.iload_n 1, 1) := by decide +kernel
theorem dX5_sum_63 : decode cX5_sum 63 = .ok (.if_icmp .ne 14, 3) := by decide +kernel
theorem dX5_sum_66 : decode cX5_sum 66 = .ok (.aload_n 0, 1) := by decide +kernel
theorem dX5_sum_67 : decode cX5_sum 67 = .ok (.iload 6, 2) := by decide +kernel
theorem dX5_sum_69 : decode cX5_sum 69 = .ok (.iload 7, 2) := by decide +kernel
theorem dX5_sum_71 : decode cX5_sum 71 = .ok (.invokevirtual 157, 3) := by decide +kernel
theorem dX5_sum_74 : decode cX5_sum 74 = .ok (.goto 4, 3) := by decide +kernel
theorem dX5_sum_77 : decode cX5_sum 77 = .ok (.lconst 0, 1) := by decide +kernel
theorem dX5_sum_78 : decode cX5_sum 78 = .ok (.ladd, 1) := by decide +kernel
theorem dX5_sum_79 : decode cX5_sum 79 = .ok (.lstore 4, 2) := by decide +kernel
theorem dX5_sum_81 : decode cX5_sum 81 = .ok (.iinc 7 1, 3) := by decide +kernel
theorem dX5_sum_84 : decode cX5_sum 84 = .ok (.goto (-66), 3) := by decide +kernel
theorem dX5_sum_87 : decode cX5_sum 87 = .ok (.iinc 6 1, 3) := by decide +kernel
theorem dX5_sum_90 : decode cX5_sum 90 = .ok (.goto (-84), 3) := by decide +kernel
theorem dX5_sum_93 : decode cX5_sum 93 = .ok (.lload 4, 2) := by decide +kernel
theorem dX5_sum_95 : decode cX5_sum 95 = .ok (.lreturn, 1) := by decide +kernel
theorem dX5_cash_0 : decode cX5_cash 0 = .ok (.aload_n 0, 1) := by decide +kernel
theorem dX5_cash_1 : decode cX5_cash 1 = .ok (.iload_n 1, 1) := by decide +kernel
theorem dX5_cash_2 : decode cX5_cash 2 = .ok (.invokestatic 105, 3) := by decide +kernel
theorem dX5_cash_5 : decode cX5_cash 5 = .ok (.ifCond .ne 7, 3) := by decide +kernel
theorem dX5_cash_8 : decode cX5_cash 8 = .ok (.iconst 1, 1) := by decide +kernel
theorem dX5_cash_9 : decode cX5_cash 9 = .ok (.goto 19, 3) := by decide +kernel
theorem dX5_cash_12 : decode cX5_cash 12 = .ok (.iload_n 2, 1) := by decide +kernel
theorem dX5_cash_13 : decode cX5_cash 13 = .ok (.iconst 0, 1) := by decide +kernel
theorem dX5_cash_14 : decode cX5_cash 14 = .ok (.sipush 3100, 3) := by decide +kernel
theorem dX5_cash_17 : decode cX5_cash 17 = .ok (.invokestatic 75, 3) := by decide +kernel
theorem dX5_cash_20 : decode cX5_cash 20 = .ok (.ifCond .eq 7, 3) := by decide +kernel
theorem dX5_cash_23 : decode cX5_cash 23 = .ok (.iconst 0, 1) := by decide +kernel
theorem dX5_cash_24 : decode cX5_cash 24 = .ok (.goto 4, 3) := by decide +kernel
theorem dX5_cash_27 : decode cX5_cash 27 = .ok (.iconst 2, 1) := by decide +kernel
theorem dX5_cash_28 : decode cX5_cash 28 = .ok (.putfield 71, 3) := by decide +kernel
theorem dX5_cash_31 : decode cX5_cash 31 = .ok (.aload_n 0, 1) := by decide +kernel
theorem dX5_cash_32 : decode cX5_cash 32 = .ok (.getfield 71, 3) := by decide +kernel
theorem dX5_cash_35 : decode cX5_cash 35 = .ok (.ifCond .le 7, 3) := by decide +kernel
theorem dX5_cash_38 : decode cX5_cash 38 = .ok (.lconst 0, 1) := by decide +kernel
theorem dX5_cash_39 : decode cX5_cash 39 = .ok (.goto 10, 3) := by decide +kernel
theorem dX5_cash_42 : decode cX5_cash 42 = .ok (.aload_n 0, 1) := by decide +kernel
theorem dX5_cash_43 : decode cX5_cash 43 = .ok (.iload_n 1, 1) := by decide +kernel
theorem dX5_cash_44 : decode cX5_cash 44 = .ok (.iload_n 2, 1) := by decide +kernel
theorem dX5_cash_45 : decode cX5_cash 45 = .ok (.iload_n 2, 1) := by decide +kernel
theorem dX5_cash_46 : decode cX5_cash 46 = .ok (.invokevirtual 160, 3) := by decide +kernel
theorem dX5_cash_49 : decode cX5_cash 49 = .ok (.lreturn, 1) := by decide +kernel
theorem dX5_barsDays_0 : decode cX5_barsDays 0 = .ok (.iload_n 2, 1) := by decide +kernel
theorem dX5_barsDays_1 : decode cX5_barsDays 1 = .ok (.iconst 0, 1) := by decide +kernel
theorem dX5_barsDays_2 : decode cX5_barsDays 2 = .ok (.sipush 3100, 3) := by decide +kernel
theorem dX5_barsDays_5 : decode cX5_barsDays 5 = .ok (.invokestatic 75, 3) := by decide +kernel
theorem dX5_barsDays_8 : decode cX5_barsDays 8 = .ok (.ifCond .eq 28, 3) := by decide +kernel
theorem dX5_barsDays_11 : decode cX5_barsDays 11 = .ok (.iload_n 3, 1) := by decide +kernel
theorem dX5_barsDays_12 : decode cX5_barsDays 12 = .ok (.iload_n 2, 1) := by decide +kernel
theorem dX5_barsDays_13 : decode cX5_barsDays 13 = .ok (.if_icmp .lt 23, 3) := by decide +kernel
theorem dX5_barsDays_16 : decode cX5_barsDays 16 = .ok (.iload_n 3, 1) := by decide +kernel
theorem dX5_barsDays_17 : decode cX5_barsDays 17 = .ok (.sipush 3100, 3) := by decide +kernel
theorem dX5_barsDays_20 : decode cX5_barsDays 20 = .ok (.if_icmp .gt 16, 3) := by decide +kernel
theorem dX5_barsDays_23 : decode cX5_barsDays 23 = .ok (.iload_n 3, 1) := by decide +kernel
theorem dX5_barsDays_24 : decode cX5_barsDays 24 = .ok (.iload_n 2, 1) := by decide +kernel
theorem dX5_barsDays_25 : decode cX5_barsDays 25 = .ok (.isub, 1) := by decide +kernel
theorem dX5_barsDays_26 : decode cX5_barsDays 26 = .ok (.sipush 400, 3) := by decide +kernel
theorem dX5_barsDays_29 : decode cX5_barsDays 29 = .ok (.if_icmp .gt 7, 3) := by decide +kernel
theorem dX5_barsDays_32 : decode cX5_barsDays 32 = .ok (.iconst 1, 1) := by decide +kernel
theorem dX5_barsDays_33 : decode cX5_barsDays 33 = .ok (.goto 4, 3) := by decide +kernel
theorem dX5_barsDays_36 : decode cX5_barsDays 36 = .ok (.iconst 0, 1) := by decide +kernel
theorem dX5_barsDays_37 : decode cX5_barsDays 37 = .ok (.istore 4, 2) := by decide +kernel
theorem dX5_barsDays_39 : decode cX5_barsDays 39 = .ok (.iload_n 1, 1) := by decide +kernel
theorem dX5_barsDays_40 : decode cX5_barsDays 40 = .ok (.invokestatic 105, 3) := by decide +kernel
theorem dX5_barsDays_43 : decode cX5_barsDays 43 = .ok (.ifCond .ne 7, 3) := by decide +kernel
theorem dX5_barsDays_46 : decode cX5_barsDays 46 = .ok (.iconst 1, 1) := by decide +kernel
theorem dX5_barsDays_47 : decode cX5_barsDays 47 = .ok (.goto 13, 3) := by decide +kernel
theorem dX5_barsDays_50 : decode cX5_barsDays 50 = .ok (.iload 4, 2) := by decide +kernel
theorem dX5_barsDays_52 : decode cX5_barsDays 52 = .ok (.ifCond .eq 7, 3) := by decide +kernel
theorem dX5_barsDays_55 : decode cX5_barsDays 55 = .ok (.iconst 0, 1) := by decide +kernel
theorem dX5_barsDays_56 : decode cX5_barsDays 56 = .ok (.goto 4, 3) := by decide +kernel
theorem dX5_barsDays_59 : decode cX5_barsDays 59 = .ok (.iconst 2, 1) := by decide +kernel
theorem dX5_barsDays_60 : decode cX5_barsDays 60 = .ok (.ireturn, 1) := by decide +kernel
theorem dX5_cashOfDays_0 : decode cX5_cashOfDays 0 = .ok (.aload_n 0, 1) := by decide +kernel
theorem dX5_cashOfDays_1 : decode cX5_cashOfDays 1 = .ok (.aload_n 0, 1) := by decide +kernel
theorem dX5_cashOfDays_2 : decode cX5_cashOfDays 2 = .ok (.iload_n 1, 1) := by decide +kernel
theorem dX5_cashOfDays_3 : decode cX5_cashOfDays 3 = .ok (.iload_n 2, 1) := by decide +kernel
theorem dX5_cashOfDays_4 : decode cX5_cashOfDays 4 = .ok (.iload_n 3, 1) := by decide +kernel
theorem dX5_cashOfDays_5 : decode cX5_cashOfDays 5 = .ok (.invokevirtual 164, 3) := by decide +kernel
theorem dX5_cashOfDays_8 : decode cX5_cashOfDays 8 = .ok (.putfield 71, 3) := by decide +kernel
theorem dX5_cashOfDays_11 : decode cX5_cashOfDays 11 = .ok (.aload_n 0, 1) := by decide +kernel
theorem dX5_cashOfDays_12 : decode cX5_cashOfDays 12 = .ok (.getfield 71, 3) := by decide +kernel
theorem dX5_cashOfDays_15 : decode cX5_cashOfDays 15 = .ok (.ifCond .le 7, 3) := by decide +kernel
theorem dX5_cashOfDays_18 : decode cX5_cashOfDays 18 = .ok (.lconst 0, 1) := by decide +kernel
theorem dX5_cashOfDays_19 : decode cX5_cashOfDays 19 = .ok (.goto 10, 3) := by decide +kernel
theorem dX5_cashOfDays_22 : decode cX5_cashOfDays 22 = .ok (.aload_n 0, 1) := by decide +kernel
theorem dX5_cashOfDays_23 : decode cX5_cashOfDays 23 = .ok (.iload_n 1, 1) := by decide +kernel
theorem dX5_cashOfDays_24 : decode cX5_cashOfDays 24 = .ok (.iload_n 2, 1) := by decide +kernel
theorem dX5_cashOfDays_25 : decode cX5_cashOfDays 25 = .ok (.iload_n 3, 1) := by decide +kernel
theorem dX5_cashOfDays_26 : decode cX5_cashOfDays 26 = .ok (.invokevirtual 160, 3) := by decide +kernel
theorem dX5_cashOfDays_29 : decode cX5_cashOfDays 29 = .ok (.lreturn, 1) := by decide +kernel
theorem dX5_cashByTrades_0 : decode cX5_cashByTrades 0 = .ok (.aload_n 0, 1) := by decide +kernel
theorem dX5_cashByTrades_1 : decode cX5_cashByTrades 1 = .ok (.aload_n 0, 1) := by decide +kernel
theorem dX5_cashByTrades_2 : decode cX5_cashByTrades 2 = .ok (.iload_n 1, 1) := by decide +kernel
theorem dX5_cashByTrades_3 : decode cX5_cashByTrades 3 = .ok (.iload_n 2, 1) := by decide +kernel
theorem dX5_cashByTrades_4 : decode cX5_cashByTrades 4 = .ok (.iload_n 3, 1) := by decide +kernel
theorem dX5_cashByTrades_5 : decode cX5_cashByTrades 5 = .ok (.invokevirtual 164, 3) := by decide +kernel
theorem dX5_cashByTrades_8 : decode cX5_cashByTrades 8 = .ok (.putfield 71, 3) := by decide +kernel
theorem dX5_cashByTrades_11 : decode cX5_cashByTrades 11 = .ok (.aload_n 0, 1) := by decide +kernel
theorem dX5_cashByTrades_12 : decode cX5_cashByTrades 12 = .ok (.getfield 71, 3) := by decide +kernel
theorem dX5_cashByTrades_15 : decode cX5_cashByTrades 15 = .ok (.ifCond .le 7, 3) := by decide +kernel
theorem dX5_cashByTrades_18 : decode cX5_cashByTrades 18 = .ok (.lconst 0, 1) := by decide +kernel
theorem dX5_cashByTrades_19 : decode cX5_cashByTrades 19 = .ok (.goto 10, 3) := by decide +kernel
theorem dX5_cashByTrades_22 : decode cX5_cashByTrades 22 = .ok (.aload_n 0, 1) := by decide +kernel
theorem dX5_cashByTrades_23 : decode cX5_cashByTrades 23 = .ok (.iload_n 1, 1) := by decide +kernel
theorem dX5_cashByTrades_24 : decode cX5_cashByTrades 24 = .ok (.iload_n 2, 1) := by decide +kernel
theorem dX5_cashByTrades_25 : decode cX5_cashByTrades 25 = .ok (.iload_n 3, 1) := by decide +kernel
theorem dX5_cashByTrades_26 : decode cX5_cashByTrades 26 = .ok (.invokevirtual 160, 3) := by decide +kernel
theorem dX5_cashByTrades_29 : decode cX5_cashByTrades 29 = .ok (.lreturn, 1) := by decide +kernel
theorem dX5_nextFlow_0 : decode cX5_nextFlow 0 = .ok (.aload_n 0, 1) := by decide +kernel
theorem dX5_nextFlow_1 : decode cX5_nextFlow 1 = .ok (.iload_n 1, 1) := by decide +kernel
theorem dX5_nextFlow_2 : decode cX5_nextFlow 2 = .ok (.invokestatic 105, 3) := by decide +kernel
theorem dX5_nextFlow_5 : decode cX5_nextFlow 5 = .ok (.ifCond .ne 7, 3) := by decide +kernel
theorem dX5_nextFlow_8 : decode cX5_nextFlow 8 = .ok (.iconst 1, 1) := by decide +kernel
theorem dX5_nextFlow_9 : decode cX5_nextFlow 9 = .ok (.goto 19, 3) := by decide +kernel
theorem dX5_nextFlow_12 : decode cX5_nextFlow 12 = .ok (.iload_n 2, 1) := by decide +kernel
theorem dX5_nextFlow_13 : decode cX5_nextFlow 13 = .ok (.iconst 0, 1) := by decide +kernel
theorem dX5_nextFlow_14 : decode cX5_nextFlow 14 = .ok (.sipush 3100, 3) := by decide +kernel
theorem dX5_nextFlow_17 : decode cX5_nextFlow 17 = .ok (.invokestatic 75, 3) := by decide +kernel
theorem dX5_nextFlow_20 : decode cX5_nextFlow 20 = .ok (.ifCond .eq 7, 3) := by decide +kernel
theorem dX5_nextFlow_23 : decode cX5_nextFlow 23 = .ok (.iconst 0, 1) := by decide +kernel
theorem dX5_nextFlow_24 : decode cX5_nextFlow 24 = .ok (.goto 4, 3) := by decide +kernel
theorem dX5_nextFlow_27 : decode cX5_nextFlow 27 = .ok (.iconst 2, 1) := by decide +kernel
theorem dX5_nextFlow_28 : decode cX5_nextFlow 28 = .ok (.putfield 71, 3) := by decide +kernel
theorem dX5_nextFlow_31 : decode cX5_nextFlow 31 = .ok (.iconst (-1), 1) := by decide +kernel
theorem dX5_nextFlow_32 : decode cX5_nextFlow 32 = .ok (.istore_n 3, 1) := by decide +kernel
theorem dX5_nextFlow_33 : decode cX5_nextFlow 33 = .ok (.iconst 0, 1) := by decide +kernel
theorem dX5_nextFlow_34 : decode cX5_nextFlow 34 = .ok (.istore 4, 2) := by decide +kernel
theorem dX5_nextFlow_36 : decode cX5_nextFlow 36 = .ok (.iload 4, 2) := by decide +kernel
theorem dX5_nextFlow_38 : decode cX5_nextFlow 38 = .ok (.aload_n 0, 1) := by decide +kernel
theorem dX5_nextFlow_39 : decode cX5_nextFlow 39 = .ok (.getfield 79, 3) := by decide +kernel
theorem dX5_nextFlow_42 : decode cX5_nextFlow 42 = .ok (.if_icmp .ge 85, 3) := by decide +kernel
theorem dX5_nextFlow_45 : decode cX5_nextFlow 45 = .ok (.aload_n 0, 1) := by decide +kernel
theorem dX5_nextFlow_46 : decode cX5_nextFlow 46 = .ok (.getfield 71, 3) := by decide +kernel
theorem dX5_nextFlow_49 : decode cX5_nextFlow 49 = .ok (.ifCond .ne 78, 3) := by decide +kernel
theorem dX5_nextFlow_52 : decode cX5_nextFlow 52 = .ok (.iconst 0, 1) := by decide +kernel
theorem dX5_nextFlow_53 : decode cX5_nextFlow 53 = .ok (.istore 5, 2) := by decide +kernel
theorem dX5_nextFlow_55 : decode cX5_nextFlow 55 = .ok (.iload 5, 2) := by decide +kernel
theorem dX5_nextFlow_57 : decode cX5_nextFlow 57 = .ok (.aload_n 0, 1) := by decide +kernel
theorem dX5_nextFlow_58 : decode cX5_nextFlow 58 = .ok (.getfield 41, 3) := by decide +kernel
theorem dX5_nextFlow_61 : decode cX5_nextFlow 61 = .ok (.iload 4, 2) := by decide +kernel
theorem dX5_nextFlow_63 : decode cX5_nextFlow 63 = .ok (.iaload, 1) := by decide +kernel
theorem dX5_nextFlow_64 : decode cX5_nextFlow 64 = .ok (.if_icmp .ge 57, 3) := by decide +kernel
theorem dX5_nextFlow_67 : decode cX5_nextFlow 67 = .ok (.aload_n 0, 1) := by decide +kernel
theorem dX5_nextFlow_68 : decode cX5_nextFlow 68 = .ok (.iload 4, 2) := by decide +kernel
theorem dX5_nextFlow_70 : decode cX5_nextFlow 70 = .ok (.iload 5, 2) := by decide +kernel
theorem dX5_nextFlow_72 : decode cX5_nextFlow 72 = .ok (.iconst 1, 1) := by decide +kernel
theorem dX5_nextFlow_73 : decode cX5_nextFlow 73 = .ok (.iadd, 1) := by decide +kernel
theorem dX5_nextFlow_74 : decode cX5_nextFlow 74 = .ok (.invokevirtual 128, 3) := by decide +kernel
theorem dX5_nextFlow_77 : decode cX5_nextFlow 77 = .ok (.istore 6, 2) := by decide +kernel
theorem dX5_nextFlow_79 : decode cX5_nextFlow 79 = .ok (.iload 6, 2) := by decide +kernel
theorem dX5_nextFlow_81 : decode cX5_nextFlow 81 = .ok (.iload_n 2, 1) := by decide +kernel
theorem dX5_nextFlow_82 : decode cX5_nextFlow 82 = .ok (.if_icmp .lt 31, 3) := by decide +kernel
theorem dX5_nextFlow_85 : decode cX5_nextFlow 85 = .ok (.iload_n 3, 1) := by decide +kernel
theorem dX5_nextFlow_86 : decode cX5_nextFlow 86 = .ok (.iconst (-1), 1) := by decide +kernel
theorem dX5_nextFlow_87 : decode cX5_nextFlow 87 = .ok (.if_icmp .eq 9, 3) := by decide +kernel
theorem dX5_nextFlow_90 : decode cX5_nextFlow 90 = .ok (.iload 6, 2) := by decide +kernel
theorem dX5_nextFlow_92 : decode cX5_nextFlow 92 = .ok (.iload_n 3, 1) := by decide +kernel
theorem dX5_nextFlow_93 : decode cX5_nextFlow 93 = .ok (.if_icmp .ge 20, 3) := by decide +kernel
theorem dX5_nextFlow_96 : decode cX5_nextFlow 96 = .ok (.aload_n 0, 1) := by decide +kernel
theorem dX5_nextFlow_97 : decode cX5_nextFlow 97 = .ok (.iload 4, 2) := by decide +kernel
theorem dX5_nextFlow_99 : decode cX5_nextFlow 99 = .ok (.iload 6, 2) := by decide +kernel
theorem dX5_nextFlow_101 : decode cX5_nextFlow 101 = .ok (.invokevirtual 125, 3) := by decide +kernel
theorem dX5_nextFlow_104 : decode cX5_nextFlow 104 = .ok (.iload_n 1, 1) := by decide +kernel
theorem dX5_nextFlow_105 : decode cX5_nextFlow 105 = .ok (.if_icmp .ne 8, 3) := by decide +kernel
theorem dX5_nextFlow_108 : decode cX5_nextFlow 108 = .ok (.iload 6, 2) := by decide +kernel
theorem dX5_nextFlow_110 : decode cX5_nextFlow 110 = .ok (.goto 4, 3) := by decide +kernel
theorem dX5_nextFlow_113 : decode cX5_nextFlow 113 = .ok (.iload_n 3, 1) := by decide +kernel
theorem dX5_nextFlow_114 : decode cX5_nextFlow 114 = .ok (.istore_n 3, 1) := by decide +kernel
theorem dX5_nextFlow_115 : decode cX5_nextFlow 115 = .ok (.iinc 5 1, 3) := by decide +kernel
theorem dX5_nextFlow_118 : decode cX5_nextFlow 118 = .ok (.goto (-63), 3) := by decide +kernel
theorem dX5_nextFlow_121 : decode cX5_nextFlow 121 = .ok (.iinc 4 1, 3) := by decide +kernel
theorem dX5_nextFlow_124 : decode cX5_nextFlow 124 = .ok (.goto (-88), 3) := by decide +kernel
theorem dX5_nextFlow_127 : decode cX5_nextFlow 127 = .ok (.aload_n 0, 1) := by decide +kernel
theorem dX5_nextFlow_128 : decode cX5_nextFlow 128 = .ok (.getfield 71, 3) := by decide +kernel
theorem dX5_nextFlow_131 : decode cX5_nextFlow 131 = .ok (.ifCond .le 7, 3) := by decide +kernel
theorem dX5_nextFlow_134 : decode cX5_nextFlow 134 = .ok (.iconst 0, 1) := by decide +kernel
theorem dX5_nextFlow_135 : decode cX5_nextFlow 135 = .ok (.goto 4, 3) := by decide +kernel
theorem dX5_nextFlow_138 : decode cX5_nextFlow 138 = .ok (.iload_n 3, 1) := by decide +kernel
theorem dX5_nextFlow_139 : decode cX5_nextFlow 139 = .ok (.ireturn, 1) := by decide +kernel
theorem dL_holiday_0 : decode cL_holiday 0 = .ok (.aload_n 3, 1) := by decide +kernel
theorem dL_holiday_1 : decode cL_holiday 1 = .ok (.iconst 0, 1) := by decide +kernel
theorem dL_holiday_2 : decode cL_holiday 2 = .ok (.aload_n 0, 1) := by decide +kernel
theorem dL_holiday_3 : decode cL_holiday 3 = .ok (.iload_n 1, 1) := by decide +kernel
theorem dL_holiday_4 : decode cL_holiday 4 = .ok (.iload_n 2, 1) := by decide +kernel
theorem dL_holiday_5 : decode cL_holiday 5 = .ok (.invokevirtual 7, 3) := by decide +kernel
theorem dL_holiday_8 : decode cL_holiday 8 = .ok (.i2l, 1) := by decide +kernel
theorem dL_holiday_9 : decode cL_holiday 9 = .ok (.lastore, 1) := by decide +kernel
theorem dL_holiday_10 : decode cL_holiday 10 = .ok (.goto 15, 3) := by decide +kernel
theorem dL_holiday_13 : decode cL_holiday 13 = .ok (.astore 4, 2) := by decide +kernel
theorem dL_holiday_15 : decode cL_holiday 15 = .ok (.iconst 1, 1) := by decide +kernel
theorem dL_holiday_16 : decode cL_holiday 16 = .ok (.ireturn, 1) := by decide +kernel
theorem dL_holiday_17 : decode cL_holiday 17 = .ok (.astore 4, 2) := by decide +kernel
theorem dL_holiday_19 : decode cL_holiday 19 = .ok (.iconst 2, 1) := by decide +kernel
theorem dL_holiday_20 : decode cL_holiday 20 = .ok (.ireturn, 1) := by decide +kernel
theorem dL_holiday_21 : decode cL_holiday 21 = .ok (.astore 4, 2) := by decide +kernel
theorem dL_holiday_23 : decode cL_holiday 23 = .ok (.iconst 3, 1) := by decide +kernel
theorem dL_holiday_24 : decode cL_holiday 24 = .ok (.ireturn, 1) := by decide +kernel
theorem dL_holiday_25 : decode cL_holiday 25 = .ok (.iconst 0, 1) := by decide +kernel
theorem dL_holiday_26 : decode cL_holiday 26 = .ok (.ireturn, 1) := by decide +kernel
theorem dL_isOpen_0 : decode cL_isOpen 0 = .ok (.aload_n 2, 1) := by decide +kernel
theorem dL_isOpen_1 : decode cL_isOpen 1 = .ok (.iconst 0, 1) := by decide +kernel
theorem dL_isOpen_2 : decode cL_isOpen 2 = .ok (.aload_n 0, 1) := by decide +kernel
theorem dL_isOpen_3 : decode cL_isOpen 3 = .ok (.iload_n 1, 1) := by decide +kernel
theorem dL_isOpen_4 : decode cL_isOpen 4 = .ok (.invokevirtual 19, 3) := by decide +kernel
theorem dL_isOpen_7 : decode cL_isOpen 7 = .ok (.ifCond .eq 7, 3) := by decide +kernel
theorem dL_isOpen_10 : decode cL_isOpen 10 = .ok (.lconst 1, 1) := by decide +kernel
theorem dL_isOpen_11 : decode cL_isOpen 11 = .ok (.goto 4, 3) := by decide +kernel
theorem dL_isOpen_14 : decode cL_isOpen 14 = .ok (.lconst 0, 1) := by decide +kernel
theorem dL_isOpen_15 : decode cL_isOpen 15 = .ok (.lastore, 1) := by decide +kernel
theorem dL_isOpen_16 : decode cL_isOpen 16 = .ok (.goto 6, 3) := by decide +kernel
theorem dL_isOpen_19 : decode cL_isOpen 19 = .ok (.astore_n 3, 1) := by decide +kernel
theorem dL_isOpen_20 : decode cL_isOpen 20 = .ok (.iconst 1, 1) := by decide +kernel
theorem dL_isOpen_21 : decode cL_isOpen 21 = .ok (.ireturn, 1) := by decide +kernel
theorem dL_isOpen_22 : decode cL_isOpen 22 = .ok (.iconst 0, 1) := by decide +kernel
theorem dL_isOpen_23 : decode cL_isOpen 23 = .ok (.ireturn, 1) := by decide +kernel
theorem dL_roll_0 : decode cL_roll 0 = .ok (.aload_n 2, 1) := by decide +kernel
theorem dL_roll_1 : decode cL_roll 1 = .ok (.iconst 0, 1) := by decide +kernel
theorem dL_roll_2 : decode cL_roll 2 = .ok (.aload_n 0, 1) := by decide +kernel
theorem dL_roll_3 : decode cL_roll 3 = .ok (.iload_n 1, 1) := by decide +kernel
theorem dL_roll_4 : decode cL_roll 4 = .ok (.invokevirtual 23, 3) := by decide +kernel
theorem dL_roll_7 : decode cL_roll 7 = .ok (.i2l, 1) := by decide +kernel
theorem dL_roll_8 : decode cL_roll 8 = .ok (.lastore, 1) := by decide +kernel
theorem dL_roll_9 : decode cL_roll 9 = .ok (.goto 6, 3) := by decide +kernel
theorem dL_roll_12 : decode cL_roll 12 = .ok (.astore_n 3, 1) := by decide +kernel
theorem dL_roll_13 : decode cL_roll 13 = .ok (.iconst 1, 1) := by decide +kernel
theorem dL_roll_14 : decode cL_roll 14 = .ok (.ireturn, 1) := by decide +kernel
theorem dL_roll_15 : decode cL_roll 15 = .ok (.iconst 0, 1) := by decide +kernel
theorem dL_roll_16 : decode cL_roll 16 = .ok (.ireturn, 1) := by decide +kernel
theorem dL_fix_0 : decode cL_fix 0 = .ok (.aload_n 3, 1) := by decide +kernel
theorem dL_fix_1 : decode cL_fix 1 = .ok (.iconst 0, 1) := by decide +kernel
theorem dL_fix_2 : decode cL_fix 2 = .ok (.aload_n 0, 1) := by decide +kernel
theorem dL_fix_3 : decode cL_fix 3 = .ok (.iload_n 1, 1) := by decide +kernel
theorem dL_fix_4 : decode cL_fix 4 = .ok (.iload_n 2, 1) := by decide +kernel
theorem dL_fix_5 : decode cL_fix 5 = .ok (.invokevirtual 27, 3) := by decide +kernel
theorem dL_fix_8 : decode cL_fix 8 = .ok (.i2l, 1) := by decide +kernel
theorem dL_fix_9 : decode cL_fix 9 = .ok (.lastore, 1) := by decide +kernel
theorem dL_fix_10 : decode cL_fix 10 = .ok (.goto 11, 3) := by decide +kernel
theorem dL_fix_13 : decode cL_fix 13 = .ok (.astore 4, 2) := by decide +kernel
theorem dL_fix_15 : decode cL_fix 15 = .ok (.iconst 1, 1) := by decide +kernel
theorem dL_fix_16 : decode cL_fix 16 = .ok (.ireturn, 1) := by decide +kernel
theorem dL_fix_17 : decode cL_fix 17 = .ok (.astore 4, 2) := by decide +kernel
theorem dL_fix_19 : decode cL_fix 19 = .ok (.iconst 2, 1) := by decide +kernel
theorem dL_fix_20 : decode cL_fix 20 = .ok (.ireturn, 1) := by decide +kernel
theorem dL_fix_21 : decode cL_fix 21 = .ok (.iconst 0, 1) := by decide +kernel
theorem dL_fix_22 : decode cL_fix 22 = .ok (.ireturn, 1) := by decide +kernel
theorem dL_rateFor_0 : decode cL_rateFor 0 = .ok (.aload_n 2, 1) := by decide +kernel
theorem dL_rateFor_1 : decode cL_rateFor 1 = .ok (.iconst 0, 1) := by decide +kernel
theorem dL_rateFor_2 : decode cL_rateFor 2 = .ok (.aload_n 0, 1) := by decide +kernel
theorem dL_rateFor_3 : decode cL_rateFor 3 = .ok (.iload_n 1, 1) := by decide +kernel
theorem dL_rateFor_4 : decode cL_rateFor 4 = .ok (.invokevirtual 30, 3) := by decide +kernel
theorem dL_rateFor_7 : decode cL_rateFor 7 = .ok (.i2l, 1) := by decide +kernel
theorem dL_rateFor_8 : decode cL_rateFor 8 = .ok (.lastore, 1) := by decide +kernel
theorem dL_rateFor_9 : decode cL_rateFor 9 = .ok (.goto 6, 3) := by decide +kernel
theorem dL_rateFor_12 : decode cL_rateFor 12 = .ok (.astore_n 3, 1) := by decide +kernel
theorem dL_rateFor_13 : decode cL_rateFor 13 = .ok (.iconst 1, 1) := by decide +kernel
theorem dL_rateFor_14 : decode cL_rateFor 14 = .ok (.ireturn, 1) := by decide +kernel
theorem dL_rateFor_15 : decode cL_rateFor 15 = .ok (.iconst 0, 1) := by decide +kernel
theorem dL_rateFor_16 : decode cL_rateFor 16 = .ok (.ireturn, 1) := by decide +kernel
theorem dL_trade_0 : decode cL_trade 0 = .ok (.aload 8, 2) := by decide +kernel
theorem dL_trade_2 : decode cL_trade 2 = .ok (.iconst 0, 1) := by decide +kernel
theorem dL_trade_3 : decode cL_trade 3 = .ok (.aload_n 0, 1) := by decide +kernel
theorem dL_trade_4 : decode cL_trade 4 = .ok (.iload_n 1, 1) := by decide +kernel
theorem dL_trade_5 : decode cL_trade 5 = .ok (.iload_n 2, 1) := by decide +kernel
theorem dL_trade_6 : decode cL_trade 6 = .ok (.iload_n 3, 1) := by decide +kernel
theorem dL_trade_7 : decode cL_trade 7 = .ok (.iload 4, 2) := by decide +kernel
theorem dL_trade_9 : decode cL_trade 9 = .ok (.iload 5, 2) := by decide +kernel
theorem dL_trade_11 : decode cL_trade 11 = .ok (.iload 6, 2) := by decide +kernel
theorem dL_trade_13 : decode cL_trade 13 = .ok (.iload 7, 2) := by decide +kernel
theorem dL_trade_15 : decode cL_trade 15 = .ok (.invokevirtual 33, 3) := by decide +kernel
theorem dL_trade_18 : decode cL_trade 18 = .ok (.i2l, 1) := by decide +kernel
theorem dL_trade_19 : decode cL_trade 19 = .ok (.lastore, 1) := by decide +kernel
theorem dL_trade_20 : decode cL_trade 20 = .ok (.goto 15, 3) := by decide +kernel
theorem dL_trade_23 : decode cL_trade 23 = .ok (.astore 9, 2) := by decide +kernel
theorem dL_trade_25 : decode cL_trade 25 = .ok (.iconst 1, 1) := by decide +kernel
theorem dL_trade_26 : decode cL_trade 26 = .ok (.ireturn, 1) := by decide +kernel
theorem dL_trade_27 : decode cL_trade 27 = .ok (.astore 9, 2) := by decide +kernel
theorem dL_trade_29 : decode cL_trade 29 = .ok (.iconst 2, 1) := by decide +kernel
theorem dL_trade_30 : decode cL_trade 30 = .ok (.ireturn, 1) := by decide +kernel
theorem dL_trade_31 : decode cL_trade 31 = .ok (.astore 9, 2) := by decide +kernel
theorem dL_trade_33 : decode cL_trade 33 = .ok (.iconst 3, 1) := by decide +kernel
theorem dL_trade_34 : decode cL_trade 34 = .ok (.ireturn, 1) := by decide +kernel
theorem dL_trade_35 : decode cL_trade 35 = .ok (.iconst 0, 1) := by decide +kernel
theorem dL_trade_36 : decode cL_trade 36 = .ok (.ireturn, 1) := by decide +kernel
theorem dL_setTerms_0 : decode cL_setTerms 0 = .ok (.aload_n 0, 1) := by decide +kernel
theorem dL_setTerms_1 : decode cL_setTerms 1 = .ok (.iload_n 1, 1) := by decide +kernel
theorem dL_setTerms_2 : decode cL_setTerms 2 = .ok (.iload_n 2, 1) := by decide +kernel
theorem dL_setTerms_3 : decode cL_setTerms 3 = .ok (.iload_n 3, 1) := by decide +kernel
theorem dL_setTerms_4 : decode cL_setTerms 4 = .ok (.iload 4, 2) := by decide +kernel
theorem dL_setTerms_6 : decode cL_setTerms 6 = .ok (.invokevirtual 37, 3) := by decide +kernel
theorem dL_setTerms_9 : decode cL_setTerms 9 = .ok (.goto 15, 3) := by decide +kernel
theorem dL_setTerms_12 : decode cL_setTerms 12 = .ok (.astore 5, 2) := by decide +kernel
theorem dL_setTerms_14 : decode cL_setTerms 14 = .ok (.iconst 1, 1) := by decide +kernel
theorem dL_setTerms_15 : decode cL_setTerms 15 = .ok (.ireturn, 1) := by decide +kernel
theorem dL_setTerms_16 : decode cL_setTerms 16 = .ok (.astore 5, 2) := by decide +kernel
theorem dL_setTerms_18 : decode cL_setTerms 18 = .ok (.iconst 2, 1) := by decide +kernel
theorem dL_setTerms_19 : decode cL_setTerms 19 = .ok (.ireturn, 1) := by decide +kernel
theorem dL_setTerms_20 : decode cL_setTerms 20 = .ok (.astore 5, 2) := by decide +kernel
theorem dL_setTerms_22 : decode cL_setTerms 22 = .ok (.iconst 3, 1) := by decide +kernel
theorem dL_setTerms_23 : decode cL_setTerms 23 = .ok (.ireturn, 1) := by decide +kernel
theorem dL_setTerms_24 : decode cL_setTerms 24 = .ok (.iconst 0, 1) := by decide +kernel
theorem dL_setTerms_25 : decode cL_setTerms 25 = .ok (.ireturn, 1) := by decide +kernel
theorem dL_breakPart_0 : decode cL_breakPart 0 = .ok (.aload 4, 2) := by decide +kernel
theorem dL_breakPart_2 : decode cL_breakPart 2 = .ok (.iconst 0, 1) := by decide +kernel
theorem dL_breakPart_3 : decode cL_breakPart 3 = .ok (.aload_n 0, 1) := by decide +kernel
theorem dL_breakPart_4 : decode cL_breakPart 4 = .ok (.iload_n 1, 1) := by decide +kernel
theorem dL_breakPart_5 : decode cL_breakPart 5 = .ok (.iload_n 2, 1) := by decide +kernel
theorem dL_breakPart_6 : decode cL_breakPart 6 = .ok (.iload_n 3, 1) := by decide +kernel
theorem dL_breakPart_7 : decode cL_breakPart 7 = .ok (.invokevirtual 41, 3) := by decide +kernel
theorem dL_breakPart_10 : decode cL_breakPart 10 = .ok (.i2l, 1) := by decide +kernel
theorem dL_breakPart_11 : decode cL_breakPart 11 = .ok (.lastore, 1) := by decide +kernel
theorem dL_breakPart_12 : decode cL_breakPart 12 = .ok (.goto 15, 3) := by decide +kernel
theorem dL_breakPart_15 : decode cL_breakPart 15 = .ok (.astore 5, 2) := by decide +kernel
theorem dL_breakPart_17 : decode cL_breakPart 17 = .ok (.iconst 1, 1) := by decide +kernel
theorem dL_breakPart_18 : decode cL_breakPart 18 = .ok (.ireturn, 1) := by decide +kernel
theorem dL_breakPart_19 : decode cL_breakPart 19 = .ok (.astore 5, 2) := by decide +kernel
theorem dL_breakPart_21 : decode cL_breakPart 21 = .ok (.iconst 2, 1) := by decide +kernel
theorem dL_breakPart_22 : decode cL_breakPart 22 = .ok (.ireturn, 1) := by decide +kernel
theorem dL_breakPart_23 : decode cL_breakPart 23 = .ok (.astore 5, 2) := by decide +kernel
theorem dL_breakPart_25 : decode cL_breakPart 25 = .ok (.iconst 3, 1) := by decide +kernel
theorem dL_breakPart_26 : decode cL_breakPart 26 = .ok (.ireturn, 1) := by decide +kernel
theorem dL_breakPart_27 : decode cL_breakPart 27 = .ok (.iconst 0, 1) := by decide +kernel
theorem dL_breakPart_28 : decode cL_breakPart 28 = .ok (.ireturn, 1) := by decide +kernel
theorem dL_handOver_0 : decode cL_handOver 0 = .ok (.aload 4, 2) := by decide +kernel
theorem dL_handOver_2 : decode cL_handOver 2 = .ok (.iconst 0, 1) := by decide +kernel
theorem dL_handOver_3 : decode cL_handOver 3 = .ok (.aload_n 0, 1) := by decide +kernel
theorem dL_handOver_4 : decode cL_handOver 4 = .ok (.iload_n 1, 1) := by decide +kernel
theorem dL_handOver_5 : decode cL_handOver 5 = .ok (.iload_n 2, 1) := by decide +kernel
theorem dL_handOver_6 : decode cL_handOver 6 = .ok (.iload_n 3, 1) := by decide +kernel
theorem dL_handOver_7 : decode cL_handOver 7 = .ok (.invokevirtual 45, 3) := by decide +kernel
theorem dL_handOver_10 : decode cL_handOver 10 = .ok (.i2l, 1) := by decide +kernel
theorem dL_handOver_11 : decode cL_handOver 11 = .ok (.lastore, 1) := by decide +kernel
theorem dL_handOver_12 : decode cL_handOver 12 = .ok (.goto 15, 3) := by decide +kernel
theorem dL_handOver_15 : decode cL_handOver 15 = .ok (.astore 5, 2) := by decide +kernel
theorem dL_handOver_17 : decode cL_handOver 17 = .ok (.iconst 1, 1) := by decide +kernel
theorem dL_handOver_18 : decode cL_handOver 18 = .ok (.ireturn, 1) := by decide +kernel
theorem dL_handOver_19 : decode cL_handOver 19 = .ok (.astore 5, 2) := by decide +kernel
theorem dL_handOver_21 : decode cL_handOver 21 = .ok (.iconst 2, 1) := by decide +kernel
theorem dL_handOver_22 : decode cL_handOver 22 = .ok (.ireturn, 1) := by decide +kernel
theorem dL_handOver_23 : decode cL_handOver 23 = .ok (.astore 5, 2) := by decide +kernel
theorem dL_handOver_25 : decode cL_handOver 25 = .ok (.iconst 3, 1) := by decide +kernel
theorem dL_handOver_26 : decode cL_handOver 26 = .ok (.ireturn, 1) := by decide +kernel
theorem dL_handOver_27 : decode cL_handOver 27 = .ok (.iconst 0, 1) := by decide +kernel
theorem dL_handOver_28 : decode cL_handOver 28 = .ok (.ireturn, 1) := by decide +kernel
theorem dL_press_0 : decode cL_press 0 = .ok (.aload_n 2, 1) := by decide +kernel
theorem dL_press_1 : decode cL_press 1 = .ok (.iconst 0, 1) := by decide +kernel
theorem dL_press_2 : decode cL_press 2 = .ok (.aload_n 0, 1) := by decide +kernel
theorem dL_press_3 : decode cL_press 3 = .ok (.iload_n 1, 1) := by decide +kernel
theorem dL_press_4 : decode cL_press 4 = .ok (.invokevirtual 48, 3) := by decide +kernel
theorem dL_press_7 : decode cL_press 7 = .ok (.i2l, 1) := by decide +kernel
theorem dL_press_8 : decode cL_press 8 = .ok (.lastore, 1) := by decide +kernel
theorem dL_press_9 : decode cL_press 9 = .ok (.goto 6, 3) := by decide +kernel
theorem dL_press_12 : decode cL_press 12 = .ok (.astore_n 3, 1) := by decide +kernel
theorem dL_press_13 : decode cL_press 13 = .ok (.iconst 1, 1) := by decide +kernel
theorem dL_press_14 : decode cL_press 14 = .ok (.ireturn, 1) := by decide +kernel
theorem dL_press_15 : decode cL_press 15 = .ok (.iconst 0, 1) := by decide +kernel
theorem dL_press_16 : decode cL_press 16 = .ok (.ireturn, 1) := by decide +kernel
theorem dL_start_0 : decode cL_start 0 = .ok (.aload_n 3, 1) := by decide +kernel
theorem dL_start_1 : decode cL_start 1 = .ok (.iconst 0, 1) := by decide +kernel
theorem dL_start_2 : decode cL_start 2 = .ok (.aload_n 0, 1) := by decide +kernel
theorem dL_start_3 : decode cL_start 3 = .ok (.iload_n 1, 1) := by decide +kernel
theorem dL_start_4 : decode cL_start 4 = .ok (.iload_n 2, 1) := by decide +kernel
theorem dL_start_5 : decode cL_start 5 = .ok (.invokevirtual 51, 3) := by decide +kernel
theorem dL_start_8 : decode cL_start 8 = .ok (.i2l, 1) := by decide +kernel
theorem dL_start_9 : decode cL_start 9 = .ok (.lastore, 1) := by decide +kernel
theorem dL_start_10 : decode cL_start 10 = .ok (.goto 7, 3) := by decide +kernel
theorem dL_start_13 : decode cL_start 13 = .ok (.astore 4, 2) := by decide +kernel
theorem dL_start_15 : decode cL_start 15 = .ok (.iconst 1, 1) := by decide +kernel
theorem dL_start_16 : decode cL_start 16 = .ok (.ireturn, 1) := by decide +kernel
theorem dL_start_17 : decode cL_start 17 = .ok (.iconst 0, 1) := by decide +kernel
theorem dL_start_18 : decode cL_start 18 = .ok (.ireturn, 1) := by decide +kernel
theorem dL_end_0 : decode cL_end 0 = .ok (.aload_n 3, 1) := by decide +kernel
theorem dL_end_1 : decode cL_end 1 = .ok (.iconst 0, 1) := by decide +kernel
theorem dL_end_2 : decode cL_end 2 = .ok (.aload_n 0, 1) := by decide +kernel
theorem dL_end_3 : decode cL_end 3 = .ok (.iload_n 1, 1) := by decide +kernel
theorem dL_end_4 : decode cL_end 4 = .ok (.iload_n 2, 1) := by decide +kernel
theorem dL_end_5 : decode cL_end 5 = .ok (.invokevirtual 54, 3) := by decide +kernel
theorem dL_end_8 : decode cL_end 8 = .ok (.i2l, 1) := by decide +kernel
theorem dL_end_9 : decode cL_end 9 = .ok (.lastore, 1) := by decide +kernel
theorem dL_end_10 : decode cL_end 10 = .ok (.goto 7, 3) := by decide +kernel
theorem dL_end_13 : decode cL_end 13 = .ok (.astore 4, 2) := by decide +kernel
theorem dL_end_15 : decode cL_end 15 = .ok (.iconst 1, 1) := by decide +kernel
theorem dL_end_16 : decode cL_end 16 = .ok (.ireturn, 1) := by decide +kernel
theorem dL_end_17 : decode cL_end 17 = .ok (.iconst 0, 1) := by decide +kernel
theorem dL_end_18 : decode cL_end 18 = .ok (.ireturn, 1) := by decide +kernel
theorem dL_lots_0 : decode cL_lots 0 = .ok (.aload_n 3, 1) := by decide +kernel
theorem dL_lots_1 : decode cL_lots 1 = .ok (.iconst 0, 1) := by decide +kernel
theorem dL_lots_2 : decode cL_lots 2 = .ok (.aload_n 0, 1) := by decide +kernel
theorem dL_lots_3 : decode cL_lots 3 = .ok (.iload_n 1, 1) := by decide +kernel
theorem dL_lots_4 : decode cL_lots 4 = .ok (.iload_n 2, 1) := by decide +kernel
theorem dL_lots_5 : decode cL_lots 5 = .ok (.invokevirtual 57, 3) := by decide +kernel
theorem dL_lots_8 : decode cL_lots 8 = .ok (.i2l, 1) := by decide +kernel
theorem dL_lots_9 : decode cL_lots 9 = .ok (.lastore, 1) := by decide +kernel
theorem dL_lots_10 : decode cL_lots 10 = .ok (.goto 7, 3) := by decide +kernel
theorem dL_lots_13 : decode cL_lots 13 = .ok (.astore 4, 2) := by decide +kernel
theorem dL_lots_15 : decode cL_lots 15 = .ok (.iconst 1, 1) := by decide +kernel
theorem dL_lots_16 : decode cL_lots 16 = .ok (.ireturn, 1) := by decide +kernel
theorem dL_lots_17 : decode cL_lots 17 = .ok (.iconst 0, 1) := by decide +kernel
theorem dL_lots_18 : decode cL_lots 18 = .ok (.ireturn, 1) := by decide +kernel
theorem dL_floating_0 : decode cL_floating 0 = .ok (.aload_n 3, 1) := by decide +kernel
theorem dL_floating_1 : decode cL_floating 1 = .ok (.iconst 0, 1) := by decide +kernel
theorem dL_floating_2 : decode cL_floating 2 = .ok (.aload_n 0, 1) := by decide +kernel
theorem dL_floating_3 : decode cL_floating 3 = .ok (.iload_n 1, 1) := by decide +kernel
theorem dL_floating_4 : decode cL_floating 4 = .ok (.iload_n 2, 1) := by decide +kernel
theorem dL_floating_5 : decode cL_floating 5 = .ok (.invokevirtual 60, 3) := by decide +kernel
theorem dL_floating_8 : decode cL_floating 8 = .ok (.lastore, 1) := by decide +kernel
theorem dL_floating_9 : decode cL_floating 9 = .ok (.goto 7, 3) := by decide +kernel
theorem dL_floating_12 : decode cL_floating 12 = .ok (.astore 4, 2) := by decide +kernel
theorem dL_floating_14 : decode cL_floating 14 = .ok (.iconst 1, 1) := by decide +kernel
theorem dL_floating_15 : decode cL_floating 15 = .ok (.ireturn, 1) := by decide +kernel
theorem dL_floating_16 : decode cL_floating 16 = .ok (.iconst 0, 1) := by decide +kernel
theorem dL_floating_17 : decode cL_floating 17 = .ok (.ireturn, 1) := by decide +kernel
theorem dL_flow_0 : decode cL_flow 0 = .ok (.aload_n 3, 1) := by decide +kernel
theorem dL_flow_1 : decode cL_flow 1 = .ok (.iconst 0, 1) := by decide +kernel
theorem dL_flow_2 : decode cL_flow 2 = .ok (.aload_n 0, 1) := by decide +kernel
theorem dL_flow_3 : decode cL_flow 3 = .ok (.iload_n 1, 1) := by decide +kernel
theorem dL_flow_4 : decode cL_flow 4 = .ok (.iload_n 2, 1) := by decide +kernel
theorem dL_flow_5 : decode cL_flow 5 = .ok (.invokevirtual 64, 3) := by decide +kernel
theorem dL_flow_8 : decode cL_flow 8 = .ok (.lastore, 1) := by decide +kernel
theorem dL_flow_9 : decode cL_flow 9 = .ok (.goto 7, 3) := by decide +kernel
theorem dL_flow_12 : decode cL_flow 12 = .ok (.astore 4, 2) := by decide +kernel
theorem dL_flow_14 : decode cL_flow 14 = .ok (.iconst 1, 1) := by decide +kernel
theorem dL_flow_15 : decode cL_flow 15 = .ok (.ireturn, 1) := by decide +kernel
theorem dL_flow_16 : decode cL_flow 16 = .ok (.iconst 0, 1) := by decide +kernel
theorem dL_flow_17 : decode cL_flow 17 = .ok (.ireturn, 1) := by decide +kernel
theorem dL_partyOn_0 : decode cL_partyOn 0 = .ok (.aload_n 3, 1) := by decide +kernel
theorem dL_partyOn_1 : decode cL_partyOn 1 = .ok (.iconst 0, 1) := by decide +kernel
theorem dL_partyOn_2 : decode cL_partyOn 2 = .ok (.aload_n 0, 1) := by decide +kernel
theorem dL_partyOn_3 : decode cL_partyOn 3 = .ok (.iload_n 1, 1) := by decide +kernel
theorem dL_partyOn_4 : decode cL_partyOn 4 = .ok (.iload_n 2, 1) := by decide +kernel
theorem dL_partyOn_5 : decode cL_partyOn 5 = .ok (.invokevirtual 67, 3) := by decide +kernel
theorem dL_partyOn_8 : decode cL_partyOn 8 = .ok (.i2l, 1) := by decide +kernel
theorem dL_partyOn_9 : decode cL_partyOn 9 = .ok (.lastore, 1) := by decide +kernel
theorem dL_partyOn_10 : decode cL_partyOn 10 = .ok (.goto 11, 3) := by decide +kernel
theorem dL_partyOn_13 : decode cL_partyOn 13 = .ok (.astore 4, 2) := by decide +kernel
theorem dL_partyOn_15 : decode cL_partyOn 15 = .ok (.iconst 1, 1) := by decide +kernel
theorem dL_partyOn_16 : decode cL_partyOn 16 = .ok (.ireturn, 1) := by decide +kernel
theorem dL_partyOn_17 : decode cL_partyOn 17 = .ok (.astore 4, 2) := by decide +kernel
theorem dL_partyOn_19 : decode cL_partyOn 19 = .ok (.iconst 2, 1) := by decide +kernel
theorem dL_partyOn_20 : decode cL_partyOn 20 = .ok (.ireturn, 1) := by decide +kernel
theorem dL_partyOn_21 : decode cL_partyOn 21 = .ok (.iconst 0, 1) := by decide +kernel
theorem dL_partyOn_22 : decode cL_partyOn 22 = .ok (.ireturn, 1) := by decide +kernel
theorem dL_cash_0 : decode cL_cash 0 = .ok (.aload_n 3, 1) := by decide +kernel
theorem dL_cash_1 : decode cL_cash 1 = .ok (.iconst 0, 1) := by decide +kernel
theorem dL_cash_2 : decode cL_cash 2 = .ok (.aload_n 0, 1) := by decide +kernel
theorem dL_cash_3 : decode cL_cash 3 = .ok (.iload_n 1, 1) := by decide +kernel
theorem dL_cash_4 : decode cL_cash 4 = .ok (.iload_n 2, 1) := by decide +kernel
theorem dL_cash_5 : decode cL_cash 5 = .ok (.invokevirtual 70, 3) := by decide +kernel
theorem dL_cash_8 : decode cL_cash 8 = .ok (.lastore, 1) := by decide +kernel
theorem dL_cash_9 : decode cL_cash 9 = .ok (.goto 11, 3) := by decide +kernel
theorem dL_cash_12 : decode cL_cash 12 = .ok (.astore 4, 2) := by decide +kernel
theorem dL_cash_14 : decode cL_cash 14 = .ok (.iconst 1, 1) := by decide +kernel
theorem dL_cash_15 : decode cL_cash 15 = .ok (.ireturn, 1) := by decide +kernel
theorem dL_cash_16 : decode cL_cash 16 = .ok (.astore 4, 2) := by decide +kernel
theorem dL_cash_18 : decode cL_cash 18 = .ok (.iconst 2, 1) := by decide +kernel
theorem dL_cash_19 : decode cL_cash 19 = .ok (.ireturn, 1) := by decide +kernel
theorem dL_cash_20 : decode cL_cash 20 = .ok (.iconst 0, 1) := by decide +kernel
theorem dL_cash_21 : decode cL_cash 21 = .ok (.ireturn, 1) := by decide +kernel
theorem dL_cashOfDays_0 : decode cL_cashOfDays 0 = .ok (.aload 4, 2) := by decide +kernel
theorem dL_cashOfDays_2 : decode cL_cashOfDays 2 = .ok (.iconst 0, 1) := by decide +kernel
theorem dL_cashOfDays_3 : decode cL_cashOfDays 3 = .ok (.aload_n 0, 1) := by decide +kernel
theorem dL_cashOfDays_4 : decode cL_cashOfDays 4 = .ok (.iload_n 1, 1) := by decide +kernel
theorem dL_cashOfDays_5 : decode cL_cashOfDays 5 = .ok (.iload_n 2, 1) := by decide +kernel
theorem dL_cashOfDays_6 : decode cL_cashOfDays 6 = .ok (.iload_n 3, 1) := by decide +kernel
theorem dL_cashOfDays_7 : decode cL_cashOfDays 7 = .ok (.invokevirtual 73, 3) := by decide +kernel
theorem dL_cashOfDays_10 : decode cL_cashOfDays 10 = .ok (.lastore, 1) := by decide +kernel
theorem dL_cashOfDays_11 : decode cL_cashOfDays 11 = .ok (.goto 11, 3) := by decide +kernel
theorem dL_cashOfDays_14 : decode cL_cashOfDays 14 = .ok (.astore 5, 2) := by decide +kernel
theorem dL_cashOfDays_16 : decode cL_cashOfDays 16 = .ok (.iconst 1, 1) := by decide +kernel
theorem dL_cashOfDays_17 : decode cL_cashOfDays 17 = .ok (.ireturn, 1) := by decide +kernel
theorem dL_cashOfDays_18 : decode cL_cashOfDays 18 = .ok (.astore 5, 2) := by decide +kernel
theorem dL_cashOfDays_20 : decode cL_cashOfDays 20 = .ok (.iconst 2, 1) := by decide +kernel
theorem dL_cashOfDays_21 : decode cL_cashOfDays 21 = .ok (.ireturn, 1) := by decide +kernel
theorem dL_cashOfDays_22 : decode cL_cashOfDays 22 = .ok (.iconst 0, 1) := by decide +kernel
theorem dL_cashOfDays_23 : decode cL_cashOfDays 23 = .ok (.ireturn, 1) := by decide +kernel
theorem dL_cashByTrades_0 : decode cL_cashByTrades 0 = .ok (.aload 4, 2) := by decide +kernel
theorem dL_cashByTrades_2 : decode cL_cashByTrades 2 = .ok (.iconst 0, 1) := by decide +kernel
theorem dL_cashByTrades_3 : decode cL_cashByTrades 3 = .ok (.aload_n 0, 1) := by decide +kernel
theorem dL_cashByTrades_4 : decode cL_cashByTrades 4 = .ok (.iload_n 1, 1) := by decide +kernel
theorem dL_cashByTrades_5 : decode cL_cashByTrades 5 = .ok (.iload_n 2, 1) := by decide +kernel
theorem dL_cashByTrades_6 : decode cL_cashByTrades 6 = .ok (.iload_n 3, 1) := by decide +kernel
theorem dL_cashByTrades_7 : decode cL_cashByTrades 7 = .ok (.invokevirtual 77, 3) := by decide +kernel
theorem dL_cashByTrades_10 : decode cL_cashByTrades 10 = .ok (.lastore, 1) := by decide +kernel
theorem dL_cashByTrades_11 : decode cL_cashByTrades 11 = .ok (.goto 11, 3) := by decide +kernel
theorem dL_cashByTrades_14 : decode cL_cashByTrades 14 = .ok (.astore 5, 2) := by decide +kernel
theorem dL_cashByTrades_16 : decode cL_cashByTrades 16 = .ok (.iconst 1, 1) := by decide +kernel
theorem dL_cashByTrades_17 : decode cL_cashByTrades 17 = .ok (.ireturn, 1) := by decide +kernel
theorem dL_cashByTrades_18 : decode cL_cashByTrades 18 = .ok (.astore 5, 2) := by decide +kernel
theorem dL_cashByTrades_20 : decode cL_cashByTrades 20 = .ok (.iconst 2, 1) := by decide +kernel
theorem dL_cashByTrades_21 : decode cL_cashByTrades 21 = .ok (.ireturn, 1) := by decide +kernel
theorem dL_cashByTrades_22 : decode cL_cashByTrades 22 = .ok (.iconst 0, 1) := by decide +kernel
theorem dL_cashByTrades_23 : decode cL_cashByTrades 23 = .ok (.ireturn, 1) := by decide +kernel
theorem dL_nextFlow_0 : decode cL_nextFlow 0 = .ok (.aload_n 3, 1) := by decide +kernel
theorem dL_nextFlow_1 : decode cL_nextFlow 1 = .ok (.iconst 0, 1) := by decide +kernel
theorem dL_nextFlow_2 : decode cL_nextFlow 2 = .ok (.aload_n 0, 1) := by decide +kernel
theorem dL_nextFlow_3 : decode cL_nextFlow 3 = .ok (.iload_n 1, 1) := by decide +kernel
theorem dL_nextFlow_4 : decode cL_nextFlow 4 = .ok (.iload_n 2, 1) := by decide +kernel
theorem dL_nextFlow_5 : decode cL_nextFlow 5 = .ok (.invokevirtual 80, 3) := by decide +kernel
theorem dL_nextFlow_8 : decode cL_nextFlow 8 = .ok (.i2l, 1) := by decide +kernel
theorem dL_nextFlow_9 : decode cL_nextFlow 9 = .ok (.lastore, 1) := by decide +kernel
theorem dL_nextFlow_10 : decode cL_nextFlow 10 = .ok (.goto 11, 3) := by decide +kernel
theorem dL_nextFlow_13 : decode cL_nextFlow 13 = .ok (.astore 4, 2) := by decide +kernel
theorem dL_nextFlow_15 : decode cL_nextFlow 15 = .ok (.iconst 1, 1) := by decide +kernel
theorem dL_nextFlow_16 : decode cL_nextFlow 16 = .ok (.ireturn, 1) := by decide +kernel
theorem dL_nextFlow_17 : decode cL_nextFlow 17 = .ok (.astore 4, 2) := by decide +kernel
theorem dL_nextFlow_19 : decode cL_nextFlow 19 = .ok (.iconst 2, 1) := by decide +kernel
theorem dL_nextFlow_20 : decode cL_nextFlow 20 = .ok (.ireturn, 1) := by decide +kernel
theorem dL_nextFlow_21 : decode cL_nextFlow 21 = .ok (.iconst 0, 1) := by decide +kernel
theorem dL_nextFlow_22 : decode cL_nextFlow 22 = .ok (.ireturn, 1) := by decide +kernel
