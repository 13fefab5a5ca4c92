theorem dX5_init_0 : decode cX5_init 0 = .ok (.aload_n 0, 1) := by decide +kernel
theorem dX5_init_1 : decode cX5_init 1 = .ok (.invokespecial 1, 3) := by decide +kernel
theorem dX5_init_4 : decode cX5_init 4 = .ok (.aload_n 0, 1) := by decide +kernel
theorem dX5_init_5 : decode cX5_init 5 = .ok (.sipush 200, 3) := by decide +kernel
theorem dX5_init_8 : decode cX5_init 8 = .ok (.newarray .int, 2) := by decide +kernel
theorem dX5_init_10 : decode cX5_init 10 = .ok (.putfield 7, 3) := by decide +kernel
theorem dX5_init_13 : decode cX5_init 13 = .ok (.aload_n 0, 1) := by decide +kernel
theorem dX5_init_14 : decode cX5_init 14 = .ok (.sipush 200, 3) := by decide +kernel
theorem dX5_init_17 : decode cX5_init 17 = .ok (.newarray .int, 2) := by decide +kernel
theorem dX5_init_19 : decode cX5_init 19 = .ok (.putfield 13, 3) := by decide +kernel
theorem dX5_init_22 : decode cX5_init 22 = .ok (.aload_n 0, 1) := by decide +kernel
theorem dX5_init_23 : decode cX5_init 23 = .ok (.sipush 200, 3) := by decide +kernel
theorem dX5_init_26 : decode cX5_init 26 = .ok (.newarray .int, 2) := by decide +kernel
theorem dX5_init_28 : decode cX5_init 28 = .ok (.putfield 16, 3) := by decide +kernel
theorem dX5_init_31 : decode cX5_init 31 = .ok (.aload_n 0, 1) := by decide +kernel
theorem dX5_init_32 : decode cX5_init 32 = .ok (.sipush 200, 3) := by decide +kernel
theorem dX5_init_35 : decode cX5_init 35 = .ok (.newarray .int, 2) := by decide +kernel
theorem dX5_init_37 : decode cX5_init 37 = .ok (.putfield 19, 3) := by decide +kernel
theorem dX5_init_40 : decode cX5_init 40 = .ok (.aload_n 0, 1) := by decide +kernel
theorem dX5_init_41 : decode cX5_init 41 = .ok (.sipush 200, 3) := by decide +kernel
theorem dX5_init_44 : decode cX5_init 44 = .ok (.newarray .int, 2) := by decide +kernel
theorem dX5_init_46 : decode cX5_init 46 = .ok (.putfield 22, 3) := by decide +kernel
theorem dX5_init_49 : decode cX5_init 49 = .ok (.aload_n 0, 1) := by decide +kernel
theorem dX5_init_50 : decode cX5_init 50 = .ok (.sipush 200, 3) := by decide +kernel
theorem dX5_init_53 : decode cX5_init 53 = .ok (.newarray .boolean, 2) := by decide +kernel
theorem dX5_init_55 : decode cX5_init 55 = .ok (.putfield 25, 3) := by decide +kernel
theorem dX5_init_58 : decode cX5_init 58 = .ok (.aload_n 0, 1) := by decide +kernel
theorem dX5_init_59 : decode cX5_init 59 = .ok (.sipush 200, 3) := by decide +kernel
theorem dX5_init_62 : decode cX5_init 62 = .ok (.newarray .boolean, 2) := by decide +kernel
theorem dX5_init_64 : decode cX5_init 64 = .ok (.putfield 29, 3) := by decide +kernel
theorem dX5_init_67 : decode cX5_init 67 = .ok (.aload_n 0, 1) := by decide +kernel
theorem dX5_init_68 : decode cX5_init 68 = .ok (.sipush 200, 3) := by decide +kernel
theorem dX5_init_71 : decode cX5_init 71 = .ok (.newarray .int, 2) := by decide +kernel
theorem dX5_init_73 : decode cX5_init 73 = .ok (.putfield 32, 3) := by decide +kernel
theorem dX5_init_76 : decode cX5_init 76 = .ok (.aload_n 0, 1) := by decide +kernel
theorem dX5_init_77 : decode cX5_init 77 = .ok (.sipush 200, 3) := by decide +kernel
theorem dX5_init_80 : decode cX5_init 80 = .ok (.newarray .int, 2) := by decide +kernel
theorem dX5_init_82 : decode cX5_init 82 = .ok (.putfield 35, 3) := by decide +kernel
theorem dX5_init_85 : decode cX5_init 85 = .ok (.aload_n 0, 1) := by decide +kernel
theorem dX5_init_86 : decode cX5_init 86 = .ok (.bipush 6, 2) := by decide +kernel
theorem dX5_init_88 : decode cX5_init 88 = .ok (.newarray .int, 2) := by decide +kernel
theorem dX5_init_90 : decode cX5_init 90 = .ok (.putfield 38, 3) := by decide +kernel
theorem dX5_init_93 : decode cX5_init 93 = .ok (.aload_n 0, 1) := by decide +kernel
theorem dX5_init_94 : decode cX5_init 94 = .ok (.bipush 6, 2) := by decide +kernel
theorem dX5_init_96 : decode cX5_init 96 = .ok (.newarray .int, 2) := by decide +kernel
theorem dX5_init_98 : decode cX5_init 98 = .ok (.putfield 41, 3) := by decide +kernel
theorem dX5_init_101 : decode cX5_init 101 = .ok (.aload_n 0, 1) := by decide +kernel
theorem dX5_init_102 : decode cX5_init 102 = .ok (.sipush 9999, 3) := by decide +kernel
theorem dX5_init_105 : decode cX5_init 105 = .ok (.putfield 44, 3) := by decide +kernel
theorem dX5_init_108 : decode cX5_init 108 = .ok (.aload_n 0, 1) := by decide +kernel
theorem dX5_init_109 : decode cX5_init 109 = .ok (.iconst (-1), 1) := by decide +kernel
theorem dX5_init_110 : decode cX5_init 110 = .ok (.putfield 48, 3) := by decide +kernel
theorem dX5_init_113 : decode cX5_init 113 = .ok (.aload_n 0, 1) := by decide +kernel
theorem dX5_init_114 : decode cX5_init 114 = .ok (.iconst (-1), 1) := by decide +kernel
theorem dX5_init_115 : decode cX5_init 115 = .ok (.putfield 51, 3) := by decide +kernel
theorem dX5_init_118 : decode cX5_init 118 = .ok (.aload_n 0, 1) := by decide +kernel
theorem dX5_init_119 : decode cX5_init 119 = .ok (.bipush 10, 2) := by decide +kernel
theorem dX5_init_121 : decode cX5_init 121 = .ok (.newarray .int, 2) := by decide +kernel
theorem dX5_init_123 : decode cX5_init 123 = .ok (.putfield 54, 3) := by decide +kernel
theorem dX5_init_126 : decode cX5_init 126 = .ok (.aload_n 0, 1) := by decide +kernel
theorem dX5_init_127 : decode cX5_init 127 = .ok (.iconst 3, 1) := by decide +kernel
theorem dX5_init_128 : decode cX5_init 128 = .ok (.putfield 57, 3) := by decide +kernel
theorem dX5_init_131 : decode cX5_init 131 = .ok (.aload_n 0, 1) := by decide +kernel
theorem dX5_init_132 : decode cX5_init 132 = .ok (.bipush 6, 2) := by decide +kernel
theorem dX5_init_134 : decode cX5_init 134 = .ok (.newarray .int, 2) := by decide +kernel
theorem dX5_init_136 : decode cX5_init 136 = .ok (.putfield 60, 3) := by decide +kernel
theorem dX5_init_139 : decode cX5_init 139 = .ok (.aload_n 0, 1) := by decide +kernel
theorem dX5_init_140 : decode cX5_init 140 = .ok (.sipush 1984, 3) := by decide +kernel
theorem dX5_init_143 : decode cX5_init 143 = .ok (.newarray .int, 2) := by decide +kernel
theorem dX5_init_145 : decode cX5_init 145 = .ok (.putfield 63, 3) := by decide +kernel
theorem dX5_init_148 : decode cX5_init 148 = .ok (.aload_n 0, 1) := by decide +kernel
theorem dX5_init_149 : decode cX5_init 149 = .ok (.sipush 200, 3) := by decide +kernel
theorem dX5_init_152 : decode cX5_init 152 = .ok (.newarray .int, 2) := by decide +kernel
theorem dX5_init_154 : decode cX5_init 154 = .ok (.putfield 66, 3) := by decide +kernel
theorem dX5_init_157 : decode cX5_init 157 = .ok (.aload_n 0, 1) := by decide +kernel
theorem dX5_init_158 : decode cX5_init 158 = .ok (.bipush 10, 2) := by decide +kernel
theorem dX5_init_160 : decode cX5_init 160 = .ok (.newarray .boolean, 2) := by decide +kernel
theorem dX5_init_162 : decode cX5_init 162 = .ok (.putfield 69, 3) := by decide +kernel
theorem dX5_init_165 : decode cX5_init 165 = .ok (.return_, 1) := by decide +kernel
theorem dX5_thrownBy_0 : decode cX5_thrownBy 0 = .ok (.iload_n 1, 1) := by decide +kernel
theorem dX5_thrownBy_1 : decode cX5_thrownBy 1 = .ok (.ifCond .eq 7, 3) := by decide +kernel
theorem dX5_thrownBy_4 : decode cX5_thrownBy 4 = .ok (.iconst 1, 1) := by decide +kernel
theorem dX5_thrownBy_5 : decode cX5_thrownBy 5 = .ok (.goto 20, 3) := by decide +kernel
theorem dX5_thrownBy_8 : decode cX5_thrownBy 8 = .ok (.iload_n 2, 1) := by decide +kernel
theorem dX5_thrownBy_9 : decode cX5_thrownBy 9 = .ok (.ifCond .eq 7, 3) := by decide +kernel
theorem dX5_thrownBy_12 : decode cX5_thrownBy 12 = .ok (.iconst 2, 1) := by decide +kernel
theorem dX5_thrownBy_13 : decode cX5_thrownBy 13 = .ok (.goto 12, 3) := by decide +kernel
theorem dX5_thrownBy_16 : decode cX5_thrownBy 16 = .ok (.iload_n 3, 1) := by decide +kernel
theorem dX5_thrownBy_17 : decode cX5_thrownBy 17 = .ok (.ifCond .eq 7, 3) := by decide +kernel
theorem dX5_thrownBy_20 : decode cX5_thrownBy 20 = .ok (.iconst 3, 1) := by decide +kernel
theorem dX5_thrownBy_21 : decode cX5_thrownBy 21 = .ok (.goto 4, 3) := by decide +kernel
theorem dX5_thrownBy_24 : decode cX5_thrownBy 24 = .ok (.iconst 0, 1) := by decide +kernel
theorem dX5_thrownBy_25 : decode cX5_thrownBy 25 = .ok (.ireturn, 1) := by decide +kernel
theorem dX5_thrown_0 : decode cX5_thrown 0 = .ok (.aload_n 0, 1) := by decide +kernel
theorem dX5_thrown_1 : decode cX5_thrown 1 = .ok (.getfield 72, 3) := by decide +kernel
theorem dX5_thrown_4 : decode cX5_thrown 4 = .ok (.ireturn, 1) := by decide +kernel
theorem dX5_throwing_0 : decode cX5_throwing 0 = .ok (.aload_n 0, 1) := by decide +kernel
theorem dX5_throwing_1 : decode cX5_throwing 1 = .ok (.aload_n 0, 1) := by decide +kernel
theorem dX5_throwing_2 : decode cX5_throwing 2 = .ok (.iload_n 1, 1) := by decide +kernel
theorem dX5_throwing_3 : decode cX5_throwing 3 = .ok (.iload_n 2, 1) := by decide +kernel
theorem dX5_throwing_4 : decode cX5_throwing 4 = .ok (.iload_n 3, 1) := by decide +kernel
theorem dX5_throwing_5 : decode cX5_throwing 5 = .ok (.invokevirtual 75, 3) := by decide +kernel
theorem dX5_throwing_8 : decode cX5_throwing 8 = .ok (.putfield 72, 3) := by decide +kernel
theorem dX5_throwing_11 : decode cX5_throwing 11 = .ok (.aload_n 0, 1) := by decide +kernel
theorem dX5_throwing_12 : decode cX5_throwing 12 = .ok (.getfield 72, 3) := by decide +kernel
theorem dX5_throwing_15 : decode cX5_throwing 15 = .ok (.ifCond .le 7, 3) := by decide +kernel
theorem dX5_throwing_18 : decode cX5_throwing 18 = .ok (.iconst 1, 1) := by decide +kernel
theorem dX5_throwing_19 : decode cX5_throwing 19 = .ok (.goto 4, 3) := by decide +kernel
theorem dX5_throwing_22 : decode cX5_throwing 22 = .ok (.iconst 0, 1) := by decide +kernel
theorem dX5_throwing_23 : decode cX5_throwing 23 = .ok (.ireturn, 1) := by decide +kernel
theorem dX5_in_0 : decode cX5_in 0 = .ok (.iload_n 0, 1) := by decide +kernel
theorem dX5_in_1 : decode cX5_in 1 = .ok (.iload_n 1, 1) := by decide +kernel
theorem dX5_in_2 : decode cX5_in 2 = .ok (.if_icmp .lt 12, 3) := by decide +kernel
theorem dX5_in_5 : decode cX5_in 5 = .ok (.iload_n 0, 1) := by decide +kernel
theorem dX5_in_6 : decode cX5_in 6 = .ok (.iload_n 2, 1) := by decide +kernel
theorem dX5_in_7 : decode cX5_in 7 = .ok (.if_icmp .gt 7, 3) := by decide +kernel
theorem dX5_in_10 : decode cX5_in 10 = .ok (.iconst 1, 1) := by decide +kernel
theorem dX5_in_11 : decode cX5_in 11 = .ok (.goto 4, 3) := by decide +kernel
theorem dX5_in_14 : decode cX5_in 14 = .ok (.iconst 0, 1) := by decide +kernel
theorem dX5_in_15 : decode cX5_in 15 = .ok (.ireturn, 1) := by decide +kernel
theorem dX5_isDay_0 : decode cX5_isDay 0 = .ok (.iload_n 0, 1) := by decide +kernel
theorem dX5_isDay_1 : decode cX5_isDay 1 = .ok (.iconst 0, 1) := by decide +kernel
theorem dX5_isDay_2 : decode cX5_isDay 2 = .ok (.sipush 9999, 3) := by decide +kernel
theorem dX5_isDay_5 : decode cX5_isDay 5 = .ok (.invokestatic 79, 3) := by decide +kernel
theorem dX5_isDay_8 : decode cX5_isDay 8 = .ok (.ireturn, 1) := by decide +kernel
theorem dX5_row_0 : decode cX5_row 0 = .ok (.iload_n 3, 1) := by decide +kernel
theorem dX5_row_1 : decode cX5_row 1 = .ok (.iconst 0, 1) := by decide +kernel
theorem dX5_row_2 : decode cX5_row 2 = .ok (.iconst 4, 1) := by decide +kernel
theorem dX5_row_3 : decode cX5_row 3 = .ok (.invokestatic 79, 3) := by decide +kernel
theorem dX5_row_6 : decode cX5_row 6 = .ok (.ifCond .eq 24, 3) := by decide +kernel
theorem dX5_row_9 : decode cX5_row 9 = .ok (.iload 4, 2) := by decide +kernel
theorem dX5_row_11 : decode cX5_row 11 = .ok (.iconst 0, 1) := by decide +kernel
theorem dX5_row_12 : decode cX5_row 12 = .ok (.bipush 9, 2) := by decide +kernel
theorem dX5_row_14 : decode cX5_row 14 = .ok (.invokestatic 79, 3) := by decide +kernel
theorem dX5_row_17 : decode cX5_row 17 = .ok (.ifCond .eq 13, 3) := by decide +kernel
theorem dX5_row_20 : decode cX5_row 20 = .ok (.iload 5, 2) := by decide +kernel
theorem dX5_row_22 : decode cX5_row 22 = .ok (.iconst 0, 1) := by decide +kernel
theorem dX5_row_23 : decode cX5_row 23 = .ok (.iconst 5, 1) := by decide +kernel
theorem dX5_row_24 : decode cX5_row 24 = .ok (.invokestatic 79, 3) := by decide +kernel
theorem dX5_row_27 : decode cX5_row 27 = .ok (.ifCond .ne 7, 3) := by decide +kernel
theorem dX5_row_30 : decode cX5_row 30 = .ok (.iconst 1, 1) := by decide +kernel
theorem dX5_row_31 : decode cX5_row 31 = .ok (.goto 4, 3) := by decide +kernel
theorem dX5_row_34 : decode cX5_row 34 = .ok (.iconst 0, 1) := by decide +kernel
theorem dX5_row_35 : decode cX5_row 35 = .ok (.istore 7, 2) := by decide +kernel
theorem dX5_row_37 : decode cX5_row 37 = .ok (.aload_n 0, 1) := by decide +kernel
theorem dX5_row_38 : decode cX5_row 38 = .ok (.iload 7, 2) := by decide +kernel
theorem dX5_row_40 : decode cX5_row 40 = .ok (.iload_n 1, 1) := by decide +kernel
theorem dX5_row_41 : decode cX5_row 41 = .ok (.invokestatic 83, 3) := by decide +kernel
theorem dX5_row_44 : decode cX5_row 44 = .ok (.ifCond .eq 23, 3) := by decide +kernel
theorem dX5_row_47 : decode cX5_row 47 = .ok (.iload_n 2, 1) := by decide +kernel
theorem dX5_row_48 : decode cX5_row 48 = .ok (.iconst 0, 1) := by decide +kernel
theorem dX5_row_49 : decode cX5_row 49 = .ok (.bipush 23, 2) := by decide +kernel
theorem dX5_row_51 : decode cX5_row 51 = .ok (.invokestatic 79, 3) := by decide +kernel
theorem dX5_row_54 : decode cX5_row 54 = .ok (.ifCond .eq 13, 3) := by decide +kernel
theorem dX5_row_57 : decode cX5_row 57 = .ok (.iload 6, 2) := by decide +kernel
theorem dX5_row_59 : decode cX5_row 59 = .ok (.iconst 0, 1) := by decide +kernel
theorem dX5_row_60 : decode cX5_row 60 = .ok (.iconst 3, 1) := by decide +kernel
theorem dX5_row_61 : decode cX5_row 61 = .ok (.invokestatic 79, 3) := by decide +kernel
theorem dX5_row_64 : decode cX5_row 64 = .ok (.ifCond .ne 7, 3) := by decide +kernel
theorem dX5_row_67 : decode cX5_row 67 = .ok (.iconst 1, 1) := by decide +kernel
theorem dX5_row_68 : decode cX5_row 68 = .ok (.goto 4, 3) := by decide +kernel
theorem dX5_row_71 : decode cX5_row 71 = .ok (.iconst 0, 1) := by decide +kernel
theorem dX5_row_72 : decode cX5_row 72 = .ok (.aload_n 0, 1) := by decide +kernel
theorem dX5_row_73 : decode cX5_row 73 = .ok (.getfield 87, 3) := by decide +kernel
theorem dX5_row_76 : decode cX5_row 76 = .ok (.sipush 200, 3) := by decide +kernel
theorem dX5_row_79 : decode cX5_row 79 = .ok (.if_icmp .ne 7, 3) := by decide +kernel
theorem dX5_row_82 : decode cX5_row 82 = .ok (.iconst 1, 1) := by decide +kernel
theorem dX5_row_83 : decode cX5_row 83 = .ok (.goto 4, 3) := by decide +kernel
theorem dX5_row_86 : decode cX5_row 86 = .ok (.iconst 0, 1) := by decide +kernel
theorem dX5_row_87 : decode cX5_row 87 = .ok (.invokevirtual 90, 3) := by decide +kernel
theorem dX5_row_90 : decode cX5_row 90 = .ok (.ifCond .eq 5, 3) := by decide +kernel
theorem dX5_row_93 : decode cX5_row 93 = .ok (.iconst 0, 1) := by decide +kernel
theorem dX5_row_94 : decode cX5_row 94 = .ok (.ireturn, 1) := by decide +kernel
theorem dX5_row_95 : decode cX5_row 95 = .ok (.aload_n 0, 1) := by decide +kernel
theorem dX5_row_96 : decode cX5_row 96 = .ok (.getfield 7, 3) := by decide +kernel
theorem dX5_row_99 : decode cX5_row 99 = .ok (.aload_n 0, 1) := by decide +kernel
theorem dX5_row_100 : decode cX5_row 100 = .ok (.getfield 87, 3) := by decide +kernel
theorem dX5_row_103 : decode cX5_row 103 = .ok (.iload_n 1, 1) := by decide +kernel
theorem dX5_row_104 : decode cX5_row 104 = .ok (.iastore, 1) := by decide +kernel
theorem dX5_row_105 : decode cX5_row 105 = .ok (.aload_n 0, 1) := by decide +kernel
theorem dX5_row_106 : decode cX5_row 106 = .ok (.getfield 13, 3) := by decide +kernel
theorem dX5_row_109 : decode cX5_row 109 = .ok (.aload_n 0, 1) := by decide +kernel
theorem dX5_row_110 : decode cX5_row 110 = .ok (.getfield 87, 3) := by decide +kernel
theorem dX5_row_113 : decode cX5_row 113 = .ok (.iload_n 2, 1) := by decide +kernel
theorem dX5_row_114 : decode cX5_row 114 = .ok (.iastore, 1) := by decide +kernel
theorem dX5_row_115 : decode cX5_row 115 = .ok (.aload_n 0, 1) := by decide +kernel
theorem dX5_row_116 : decode cX5_row 116 = .ok (.getfield 16, 3) := by decide +kernel
theorem dX5_row_119 : decode cX5_row 119 = .ok (.aload_n 0, 1) := by decide +kernel
theorem dX5_row_120 : decode cX5_row 120 = .ok (.getfield 87, 3) := by decide +kernel
theorem dX5_row_123 : decode cX5_row 123 = .ok (.iload_n 3, 1) := by decide +kernel
theorem dX5_row_124 : decode cX5_row 124 = .ok (.iastore, 1) := by decide +kernel
theorem dX5_row_125 : decode cX5_row 125 = .ok (.aload_n 0, 1) := by decide +kernel
theorem dX5_row_126 : decode cX5_row 126 = .ok (.getfield 19, 3) := by decide +kernel
theorem dX5_row_129 : decode cX5_row 129 = .ok (.aload_n 0, 1) := by decide +kernel
theorem dX5_row_130 : decode cX5_row 130 = .ok (.getfield 87, 3) := by decide +kernel
theorem dX5_row_133 : decode cX5_row 133 = .ok (.iload 4, 2) := by decide +kernel
theorem dX5_row_135 : decode cX5_row 135 = .ok (.iastore, 1) := by decide +kernel
theorem dX5_row_136 : decode cX5_row 136 = .ok (.aload_n 0, 1) := by decide +kernel
theorem dX5_row_137 : decode cX5_row 137 = .ok (.getfield 22, 3) := by decide +kernel
theorem dX5_row_140 : decode cX5_row 140 = .ok (.aload_n 0, 1) := by decide +kernel
theorem dX5_row_141 : decode cX5_row 141 = .ok (.getfield 87, 3) := by decide +kernel
theorem dX5_row_144 : decode cX5_row 144 = .ok (.iload 5, 2) := by decide +kernel
theorem dX5_row_146 : decode cX5_row 146 = .ok (.iastore, 1) := by decide +kernel
theorem dX5_row_147 : decode cX5_row 147 = .ok (.aload_n 0, 1) := by decide +kernel
theorem dX5_row_148 : decode cX5_row 148 = .ok (.getfield 25, 3) := by decide +kernel
theorem dX5_row_151 : decode cX5_row 151 = .ok (.aload_n 0, 1) := by decide +kernel
theorem dX5_row_152 : decode cX5_row 152 = .ok (.getfield 87, 3) := by decide +kernel
theorem dX5_row_155 : decode cX5_row 155 = .ok (.iload 6, 2) := by decide +kernel
theorem dX5_row_157 : decode cX5_row 157 = .ok (.iconst 2, 1) := by decide +kernel
theorem dX5_row_158 : decode cX5_row 158 = .ok (.irem, 1) := by decide +kernel
theorem dX5_row_159 : decode cX5_row 159 = .ok (.iconst 1, 1) := by decide +kernel
theorem dX5_row_160 : decode cX5_row 160 = .ok (.if_icmp .ne 7, 3) := by decide +kernel
theorem dX5_row_163 : decode cX5_row 163 = .ok (.iconst 1, 1) := by decide +kernel
theorem dX5_row_164 : decode cX5_row 164 = .ok (.goto 4, 3) := by decide +kernel
theorem dX5_row_167 : decode cX5_row 167 = .ok (.iconst 0, 1) := by decide +kernel
theorem dX5_row_168 : decode cX5_row 168 = .ok (.bastore, 1) := by decide +kernel
theorem dX5_row_169 : decode cX5_row 169 = .ok (.aload_n 0, 1) := by decide +kernel
theorem dX5_row_170 : decode cX5_row 170 = .ok (.getfield 29, 3) := by decide +kernel
theorem dX5_row_173 : decode cX5_row 173 = .ok (.aload_n 0, 1) := by decide +kernel
theorem dX5_row_174 : decode cX5_row 174 = .ok (.getfield 87, 3) := by decide +kernel
theorem dX5_row_177 : decode cX5_row 177 = .ok (.iload 6, 2) := by decide +kernel
theorem dX5_row_179 : decode cX5_row 179 = .ok (.iconst 1, 1) := by decide +kernel
theorem dX5_row_180 : decode cX5_row 180 = .ok (.if_icmp .le 7, 3) := by decide +kernel
theorem dX5_row_183 : decode cX5_row 183 = .ok (.iconst 1, 1) := by decide +kernel
theorem dX5_row_184 : decode cX5_row 184 = .ok (.goto 4, 3) := by decide +kernel
theorem dX5_row_187 : decode cX5_row 187 = .ok (.iconst 0, 1) := by decide +kernel
theorem dX5_row_188 : decode cX5_row 188 = .ok (.bastore, 1) := by decide +kernel
theorem dX5_row_189 : decode cX5_row 189 = .ok (.aload_n 0, 1) := by decide +kernel
theorem dX5_row_190 : decode cX5_row 190 = .ok (.getfield 32, 3) := by decide +kernel
theorem dX5_row_193 : decode cX5_row 193 = .ok (.aload_n 0, 1) := by decide +kernel
theorem dX5_row_194 : decode cX5_row 194 = .ok (.getfield 87, 3) := by decide +kernel
theorem dX5_row_197 : decode cX5_row 197 = .ok (.iconst (-1), 1) := by decide +kernel
theorem dX5_row_198 : decode cX5_row 198 = .ok (.iastore, 1) := by decide +kernel
theorem dX5_row_199 : decode cX5_row 199 = .ok (.aload_n 0, 1) := by decide +kernel
theorem dX5_row_200 : decode cX5_row 200 = .ok (.getfield 35, 3) := by decide +kernel
theorem dX5_row_203 : decode cX5_row 203 = .ok (.aload_n 0, 1) := by decide +kernel
theorem dX5_row_204 : decode cX5_row 204 = .ok (.getfield 87, 3) := by decide +kernel
theorem dX5_row_207 : decode cX5_row 207 = .ok (.iconst (-1), 1) := by decide +kernel
theorem dX5_row_208 : decode cX5_row 208 = .ok (.iastore, 1) := by decide +kernel
theorem dX5_row_209 : decode cX5_row 209 = .ok (.aload_n 0, 1) := by decide +kernel
theorem dX5_row_210 : decode cX5_row 210 = .ok (.dup, 1) := by decide +kernel
theorem dX5_row_211 : decode cX5_row 211 = .ok (.getfield 87, 3) := by decide +kernel
theorem dX5_row_214 : decode cX5_row 214 = .ok (.iconst 1, 1) := by decide +kernel
theorem dX5_row_215 : decode cX5_row 215 = .ok (.iadd, 1) := by decide +kernel
theorem dX5_row_216 : decode cX5_row 216 = .ok (.putfield 87, 3) := by decide +kernel
theorem dX5_row_219 : decode cX5_row 219 = .ok (.aload_n 0, 1) := by decide +kernel
theorem dX5_row_220 : decode cX5_row 220 = .ok (.getfield 87, 3) := by decide +kernel
theorem dX5_row_223 : decode cX5_row 223 = .ok (.iconst 1, 1) := by decide +kernel
theorem dX5_row_224 : decode cX5_row 224 = .ok (.isub, 1) := by decide +kernel
theorem dX5_row_225 : decode cX5_row 225 = .ok (.ireturn, 1) := by decide +kernel
theorem dX5_values_0 : decode cX5_values 0 = .ok (.aload_n 0, 1) := by decide +kernel
theorem dX5_values_1 : decode cX5_values 1 = .ok (.iload_n 1, 1) := by decide +kernel
theorem dX5_values_2 : decode cX5_values 2 = .ok (.iconst 0, 1) := by decide +kernel
theorem dX5_values_3 : decode cX5_values 3 = .ok (.aload_n 0, 1) := by decide +kernel
theorem dX5_values_4 : decode cX5_values 4 = .ok (.getfield 87, 3) := by decide +kernel
theorem dX5_values_7 : decode cX5_values 7 = .ok (.iconst 1, 1) := by decide +kernel
theorem dX5_values_8 : decode cX5_values 8 = .ok (.isub, 1) := by decide +kernel
theorem dX5_values_9 : decode cX5_values 9 = .ok (.invokestatic 79, 3) := by decide +kernel
theorem dX5_values_12 : decode cX5_values 12 = .ok (.ifCond .ne 7, 3) := by decide +kernel
theorem dX5_values_15 : decode cX5_values 15 = .ok (.iconst 1, 1) := by decide +kernel
theorem dX5_values_16 : decode cX5_values 16 = .ok (.goto 4, 3) := by decide +kernel
theorem dX5_values_19 : decode cX5_values 19 = .ok (.iconst 0, 1) := by decide +kernel
theorem dX5_values_20 : decode cX5_values 20 = .ok (.iload_n 2, 1) := by decide +kernel
theorem dX5_values_21 : decode cX5_values 21 = .ok (.iconst (-1), 1) := by decide +kernel
theorem dX5_values_22 : decode cX5_values 22 = .ok (.sipush 9999, 3) := by decide +kernel
theorem dX5_values_25 : decode cX5_values 25 = .ok (.invokestatic 79, 3) := by decide +kernel
theorem dX5_values_28 : decode cX5_values 28 = .ok (.ifCond .eq 14, 3) := by decide +kernel
theorem dX5_values_31 : decode cX5_values 31 = .ok (.iload_n 3, 1) := by decide +kernel
theorem dX5_values_32 : decode cX5_values 32 = .ok (.iconst (-1), 1) := by decide +kernel
theorem dX5_values_33 : decode cX5_values 33 = .ok (.sipush 9999, 3) := by decide +kernel
theorem dX5_values_36 : decode cX5_values 36 = .ok (.invokestatic 79, 3) := by decide +kernel
theorem dX5_values_39 : decode cX5_values 39 = .ok (.ifCond .ne 7, 3) := by decide +kernel
theorem dX5_values_42 : decode cX5_values 42 = .ok (.iconst 1, 1) := by decide +kernel
theorem dX5_values_43 : decode cX5_values 43 = .ok (.goto 4, 3) := by decide +kernel
theorem dX5_values_46 : decode cX5_values 46 = .ok (.iconst 0, 1) := by decide +kernel
theorem dX5_values_47 : decode cX5_values 47 = .ok (.iconst 0, 1) := by decide +kernel
theorem dX5_values_48 : decode cX5_values 48 = .ok (.invokevirtual 90, 3) := by decide +kernel
theorem dX5_values_51 : decode cX5_values 51 = .ok (.ifCond .eq 4, 3) := by decide +kernel
theorem dX5_values_54 : decode cX5_values 54 = .ok (.return_, 1) := by decide +kernel
theorem dX5_values_55 : decode cX5_values 55 = .ok (.aload_n 0, 1) := by decide +kernel
theorem dX5_values_56 : decode cX5_values 56 = .ok (.getfield 32, 3) := by decide +kernel
theorem dX5_values_59 : decode cX5_values 59 = .ok (.iload_n 1, 1) := by decide +kernel
theorem dX5_values_60 : decode cX5_values 60 = .ok (.iload_n 2, 1) := by decide +kernel
theorem dX5_values_61 : decode cX5_values 61 = .ok (.iastore, 1) := by decide +kernel
theorem dX5_values_62 : decode cX5_values 62 = .ok (.aload_n 0, 1) := by decide +kernel
theorem dX5_values_63 : decode cX5_values 63 = .ok (.getfield 35, 3) := by decide +kernel
theorem dX5_values_66 : decode cX5_values 66 = .ok (.iload_n 1, 1) := by decide +kernel
theorem dX5_values_67 : decode cX5_values 67 = .ok (.iload_n 3, 1) := by decide +kernel
theorem dX5_values_68 : decode cX5_values 68 = .ok (.iastore, 1) := by decide +kernel
theorem dX5_values_69 : decode cX5_values 69 = .ok (.return_, 1) := by decide +kernel
theorem dX5_define_0 : decode cX5_define 0 = .ok (.aload_n 0, 1) := by decide +kernel
theorem dX5_define_1 : decode cX5_define 1 = .ok (.iload_n 1, 1) := by decide +kernel
theorem dX5_define_2 : decode cX5_define 2 = .ok (.invokestatic 83, 3) := by decide +kernel
theorem dX5_define_5 : decode cX5_define 5 = .ok (.ifCond .eq 14, 3) := by decide +kernel
theorem dX5_define_8 : decode cX5_define 8 = .ok (.iload_n 2, 1) := by decide +kernel
theorem dX5_define_9 : decode cX5_define 9 = .ok (.iconst 0, 1) := by decide +kernel
theorem dX5_define_10 : decode cX5_define 10 = .ok (.sipush 20000, 3) := by decide +kernel
theorem dX5_define_13 : decode cX5_define 13 = .ok (.invokestatic 79, 3) := by decide +kernel
theorem dX5_define_16 : decode cX5_define 16 = .ok (.ifCond .ne 7, 3) := by decide +kernel
theorem dX5_define_19 : decode cX5_define 19 = .ok (.iconst 1, 1) := by decide +kernel
theorem dX5_define_20 : decode cX5_define 20 = .ok (.goto 4, 3) := by decide +kernel
theorem dX5_define_23 : decode cX5_define 23 = .ok (.iconst 0, 1) := by decide +kernel
theorem dX5_define_24 : decode cX5_define 24 = .ok (.aload_n 0, 1) := by decide +kernel
theorem dX5_define_25 : decode cX5_define 25 = .ok (.getfield 94, 3) := by decide +kernel
theorem dX5_define_28 : decode cX5_define 28 = .ok (.bipush 6, 2) := by decide +kernel
theorem dX5_define_30 : decode cX5_define 30 = .ok (.if_icmp .ne 7, 3) := by decide +kernel
theorem dX5_define_33 : decode cX5_define 33 = .ok (.iconst 1, 1) := by decide +kernel
theorem dX5_define_34 : decode cX5_define 34 = .ok (.goto 4, 3) := by decide +kernel
theorem dX5_define_37 : decode cX5_define 37 = .ok (.iconst 0, 1) := by decide +kernel
theorem dX5_define_38 : decode cX5_define 38 = .ok (.iconst 0, 1) := by decide +kernel
theorem dX5_define_39 : decode cX5_define 39 = .ok (.invokevirtual 90, 3) := by decide +kernel
theorem dX5_define_42 : decode cX5_define 42 = .ok (.ifCond .eq 5, 3) := by decide +kernel
theorem dX5_define_45 : decode cX5_define 45 = .ok (.iconst 0, 1) := by decide +kernel
theorem dX5_define_46 : decode cX5_define 46 = .ok (.ireturn, 1) := by decide +kernel
theorem dX5_define_47 : decode cX5_define 47 = .ok (.aload_n 0, 1) := by decide +kernel
theorem dX5_define_48 : decode cX5_define 48 = .ok (.getfield 38, 3) := by decide +kernel
theorem dX5_define_51 : decode cX5_define 51 = .ok (.aload_n 0, 1) := by decide +kernel
theorem dX5_define_52 : decode cX5_define 52 = .ok (.getfield 94, 3) := by decide +kernel
theorem dX5_define_55 : decode cX5_define 55 = .ok (.iload_n 1, 1) := by decide +kernel
theorem dX5_define_56 : decode cX5_define 56 = .ok (.iastore, 1) := by decide +kernel
theorem dX5_define_57 : decode cX5_define 57 = .ok (.aload_n 0, 1) := by decide +kernel
theorem dX5_define_58 : decode cX5_define 58 = .ok (.getfield 41, 3) := by decide +kernel
theorem dX5_define_61 : decode cX5_define 61 = .ok (.aload_n 0, 1) := by decide +kernel
theorem dX5_define_62 : decode cX5_define 62 = .ok (.getfield 94, 3) := by decide +kernel
theorem dX5_define_65 : decode cX5_define 65 = .ok (.iload_n 2, 1) := by decide +kernel
theorem dX5_define_66 : decode cX5_define 66 = .ok (.iastore, 1) := by decide +kernel
theorem dX5_define_67 : decode cX5_define 67 = .ok (.aload_n 0, 1) := by decide +kernel
theorem dX5_define_68 : decode cX5_define 68 = .ok (.dup, 1) := by decide +kernel
theorem dX5_define_69 : decode cX5_define 69 = .ok (.getfield 94, 3) := by decide +kernel
theorem dX5_define_72 : decode cX5_define 72 = .ok (.iconst 1, 1) := by decide +kernel
theorem dX5_define_73 : decode cX5_define 73 = .ok (.iadd, 1) := by decide +kernel
theorem dX5_define_74 : decode cX5_define 74 = .ok (.putfield 94, 3) := by decide +kernel
theorem dX5_define_77 : decode cX5_define 77 = .ok (.aload_n 0, 1) := by decide +kernel
theorem dX5_define_78 : decode cX5_define 78 = .ok (.getfield 94, 3) := by decide +kernel
theorem dX5_define_81 : decode cX5_define 81 = .ok (.ireturn, 1) := by decide +kernel
theorem dX5_ask_0 : decode cX5_ask 0 = .ok (.aload_n 0, 1) := by decide +kernel
theorem dX5_ask_1 : decode cX5_ask 1 = .ok (.iload_n 3, 1) := by decide +kernel
theorem dX5_ask_2 : decode cX5_ask 2 = .ok (.iconst (-1), 1) := by decide +kernel
theorem dX5_ask_3 : decode cX5_ask 3 = .ok (.iconst 4, 1) := by decide +kernel
theorem dX5_ask_4 : decode cX5_ask 4 = .ok (.invokestatic 79, 3) := by decide +kernel
theorem dX5_ask_7 : decode cX5_ask 7 = .ok (.ifCond .eq 14, 3) := by decide +kernel
theorem dX5_ask_10 : decode cX5_ask 10 = .ok (.iload 4, 2) := by decide +kernel
theorem dX5_ask_12 : decode cX5_ask 12 = .ok (.iconst (-1), 1) := by decide +kernel
theorem dX5_ask_13 : decode cX5_ask 13 = .ok (.bipush 9, 2) := by decide +kernel
theorem dX5_ask_15 : decode cX5_ask 15 = .ok (.invokestatic 79, 3) := by decide +kernel
theorem dX5_ask_18 : decode cX5_ask 18 = .ok (.ifCond .ne 7, 3) := by decide +kernel
theorem dX5_ask_21 : decode cX5_ask 21 = .ok (.iconst 1, 1) := by decide +kernel
theorem dX5_ask_22 : decode cX5_ask 22 = .ok (.goto 4, 3) := by decide +kernel
theorem dX5_ask_25 : decode cX5_ask 25 = .ok (.iconst 0, 1) := by decide +kernel
theorem dX5_ask_26 : decode cX5_ask 26 = .ok (.iload_n 1, 1) := by decide +kernel
theorem dX5_ask_27 : decode cX5_ask 27 = .ok (.invokestatic 83, 3) := by decide +kernel
theorem dX5_ask_30 : decode cX5_ask 30 = .ok (.ifCond .eq 15, 3) := by decide +kernel
theorem dX5_ask_33 : decode cX5_ask 33 = .ok (.iload_n 2, 1) := by decide +kernel
theorem dX5_ask_34 : decode cX5_ask 34 = .ok (.invokestatic 83, 3) := by decide +kernel
theorem dX5_ask_37 : decode cX5_ask 37 = .ok (.ifCond .eq 8, 3) := by decide +kernel
theorem dX5_ask_40 : decode cX5_ask 40 = .ok (.iload_n 2, 1) := by decide +kernel
theorem dX5_ask_41 : decode cX5_ask 41 = .ok (.iload_n 1, 1) := by decide +kernel
theorem dX5_ask_42 : decode cX5_ask 42 = .ok (.if_icmp .ge 7, 3) := by decide +kernel
theorem dX5_ask_45 : decode cX5_ask 45 = .ok (.iconst 1, 1) := by decide +kernel
theorem dX5_ask_46 : decode cX5_ask 46 = .ok (.goto 4, 3) := by decide +kernel
theorem dX5_ask_49 : decode cX5_ask 49 = .ok (.iconst 0, 1) := by decide +kernel
theorem dX5_ask_50 : decode cX5_ask 50 = .ok (.iconst 0, 1) := by decide +kernel
theorem dX5_ask_51 : decode cX5_ask 51 = .ok (.invokevirtual 90, 3) := by decide +kernel
theorem dX5_ask_54 : decode cX5_ask 54 = .ok (.ifCond .eq 4, 3) := by decide +kernel
theorem dX5_ask_57 : decode cX5_ask 57 = .ok (.return_, 1) := by decide +kernel
theorem dX5_ask_58 : decode cX5_ask 58 = .ok (.aload_n 0, 1) := by decide +kernel
theorem dX5_ask_59 : decode cX5_ask 59 = .ok (.iload_n 1, 1) := by decide +kernel
theorem dX5_ask_60 : decode cX5_ask 60 = .ok (.putfield 97, 3) := by decide +kernel
theorem dX5_ask_63 : decode cX5_ask 63 = .ok (.aload_n 0, 1) := by decide +kernel
theorem dX5_ask_64 : decode cX5_ask 64 = .ok (.iload_n 2, 1) := by decide +kernel
theorem dX5_ask_65 : decode cX5_ask 65 = .ok (.putfield 44, 3) := by decide +kernel
theorem dX5_ask_68 : decode cX5_ask 68 = .ok (.aload_n 0, 1) := by decide +kernel
theorem dX5_ask_69 : decode cX5_ask 69 = .ok (.iload_n 3, 1) := by decide +kernel
theorem dX5_ask_70 : decode cX5_ask 70 = .ok (.putfield 48, 3) := by decide +kernel
theorem dX5_ask_73 : decode cX5_ask 73 = .ok (.aload_n 0, 1) := by decide +kernel
theorem dX5_ask_74 : decode cX5_ask 74 = .ok (.iload 4, 2) := by decide +kernel
theorem dX5_ask_76 : decode cX5_ask 76 = .ok (.putfield 51, 3) := by decide +kernel
theorem dX5_ask_79 : decode cX5_ask 79 = .ok (.return_, 1) := by decide +kernel
theorem dX5_fits_0 : decode cX5_fits 0 = .ok (.aload_n 0, 1) := by decide +kernel
theorem dX5_fits_1 : decode cX5_fits 1 = .ok (.getfield 29, 3) := by decide +kernel
theorem dX5_fits_4 : decode cX5_fits 4 = .ok (.iload_n 1, 1) := by decide +kernel
theorem dX5_fits_5 : decode cX5_fits 5 = .ok (.baload, 1) := by decide +kernel
theorem dX5_fits_6 : decode cX5_fits 6 = .ok (.ifCond .ne 53, 3) := by decide +kernel
theorem dX5_fits_9 : decode cX5_fits 9 = .ok (.aload_n 0, 1) := by decide +kernel
theorem dX5_fits_10 : decode cX5_fits 10 = .ok (.getfield 7, 3) := by decide +kernel
theorem dX5_fits_13 : decode cX5_fits 13 = .ok (.iload_n 1, 1) := by decide +kernel
theorem dX5_fits_14 : decode cX5_fits 14 = .ok (.iaload, 1) := by decide +kernel
theorem dX5_fits_15 : decode cX5_fits 15 = .ok (.iload_n 2, 1) := by decide +kernel
theorem dX5_fits_16 : decode cX5_fits 16 = .ok (.iload_n 3, 1) := by decide +kernel
theorem dX5_fits_17 : decode cX5_fits 17 = .ok (.invokestatic 79, 3) := by decide +kernel
theorem dX5_fits_20 : decode cX5_fits 20 = .ok (.ifCond .eq 39, 3) := by decide +kernel
theorem dX5_fits_23 : decode cX5_fits 23 = .ok (.iload 4, 2) := by decide +kernel
theorem dX5_fits_25 : decode cX5_fits 25 = .ok (.ifCond .lt 14, 3) := by decide +kernel
theorem dX5_fits_28 : decode cX5_fits 28 = .ok (.aload_n 0, 1) := by decide +kernel
theorem dX5_fits_29 : decode cX5_fits 29 = .ok (.getfield 16, 3) := by decide +kernel
theorem dX5_fits_32 : decode cX5_fits 32 = .ok (.iload_n 1, 1) := by decide +kernel
theorem dX5_fits_33 : decode cX5_fits 33 = .ok (.iaload, 1) := by decide +kernel
theorem dX5_fits_34 : decode cX5_fits 34 = .ok (.iload 4, 2) := by decide +kernel
theorem dX5_fits_36 : decode cX5_fits 36 = .ok (.if_icmp .ne 23, 3) := by decide +kernel
theorem dX5_fits_39 : decode cX5_fits 39 = .ok (.iload 5, 2) := by decide +kernel
theorem dX5_fits_41 : decode cX5_fits 41 = .ok (.ifCond .lt 14, 3) := by decide +kernel
theorem dX5_fits_44 : decode cX5_fits 44 = .ok (.aload_n 0, 1) := by decide +kernel
theorem dX5_fits_45 : decode cX5_fits 45 = .ok (.getfield 19, 3) := by decide +kernel
theorem dX5_fits_48 : decode cX5_fits 48 = .ok (.iload_n 1, 1) := by decide +kernel
theorem dX5_fits_49 : decode cX5_fits 49 = .ok (.iaload, 1) := by decide +kernel
theorem dX5_fits_50 : decode cX5_fits 50 = .ok (.iload 5, 2) := by decide +kernel
theorem dX5_fits_52 : decode cX5_fits 52 = .ok (.if_icmp .ne 7, 3) := by decide +kernel
theorem dX5_fits_55 : decode cX5_fits 55 = .ok (.iconst 1, 1) := by decide +kernel
theorem dX5_fits_56 : decode cX5_fits 56 = .ok (.goto 4, 3) := by decide +kernel
theorem dX5_fits_59 : decode cX5_fits 59 = .ok (.iconst 0, 1) := by decide +kernel
theorem dX5_fits_60 : decode cX5_fits 60 = .ok (.ireturn, 1) := by decide +kernel
theorem dX5_isAsked_0 : decode cX5_isAsked 0 = .ok (.aload_n 0, 1) := by decide +kernel
theorem dX5_isAsked_1 : decode cX5_isAsked 1 = .ok (.iload_n 1, 1) := by decide +kernel
theorem dX5_isAsked_2 : decode cX5_isAsked 2 = .ok (.aload_n 0, 1) := by decide +kernel
theorem dX5_isAsked_3 : decode cX5_isAsked 3 = .ok (.getfield 97, 3) := by decide +kernel
theorem dX5_isAsked_6 : decode cX5_isAsked 6 = .ok (.aload_n 0, 1) := by decide +kernel
theorem dX5_isAsked_7 : decode cX5_isAsked 7 = .ok (.getfield 44, 3) := by decide +kernel
theorem dX5_isAsked_10 : decode cX5_isAsked 10 = .ok (.aload_n 0, 1) := by decide +kernel
theorem dX5_isAsked_11 : decode cX5_isAsked 11 = .ok (.getfield 48, 3) := by decide +kernel
theorem dX5_isAsked_14 : decode cX5_isAsked 14 = .ok (.aload_n 0, 1) := by decide +kernel
theorem dX5_isAsked_15 : decode cX5_isAsked 15 = .ok (.getfield 51, 3) := by decide +kernel
theorem dX5_isAsked_18 : decode cX5_isAsked 18 = .ok (.invokevirtual 100, 3) := by decide +kernel
theorem dX5_isAsked_21 : decode cX5_isAsked 21 = .ok (.ireturn, 1) := by decide +kernel
theorem dX5_hasBoth_0 : decode cX5_hasBoth 0 = .ok (.aload_n 0, 1) := by decide +kernel
theorem dX5_hasBoth_1 : decode cX5_hasBoth 1 = .ok (.getfield 32, 3) := by decide +kernel
theorem dX5_hasBoth_4 : decode cX5_hasBoth 4 = .ok (.iload_n 1, 1) := by decide +kernel
theorem dX5_hasBoth_5 : decode cX5_hasBoth 5 = .ok (.iaload, 1) := by decide +kernel
theorem dX5_hasBoth_6 : decode cX5_hasBoth 6 = .ok (.ifCond .lt 16, 3) := by decide +kernel
theorem dX5_hasBoth_9 : decode cX5_hasBoth 9 = .ok (.aload_n 0, 1) := by decide +kernel
theorem dX5_hasBoth_10 : decode cX5_hasBoth 10 = .ok (.getfield 35, 3) := by decide +kernel
theorem dX5_hasBoth_13 : decode cX5_hasBoth 13 = .ok (.iload_n 1, 1) := by decide +kernel
theorem dX5_hasBoth_14 : decode cX5_hasBoth 14 = .ok (.iaload, 1) := by decide +kernel
theorem dX5_hasBoth_15 : decode cX5_hasBoth 15 = .ok (.ifCond .lt 7, 3) := by decide +kernel
theorem dX5_hasBoth_18 : decode cX5_hasBoth 18 = .ok (.iconst 1, 1) := by decide +kernel
theorem dX5_hasBoth_19 : decode cX5_hasBoth 19 = .ok (.goto 4, 3) := by decide +kernel
theorem dX5_hasBoth_22 : decode cX5_hasBoth 22 = .ok (.iconst 0, 1) := by decide +kernel
theorem dX5_hasBoth_23 : decode cX5_hasBoth 23 = .ok (.ireturn, 1) := by decide +kernel
theorem dX5_markOf_0 : decode cX5_markOf 0 = .ok (.iconst (-1), 1) := by decide +kernel
theorem dX5_markOf_1 : decode cX5_markOf 1 = .ok (.istore_n 2, 1) := by decide +kernel
theorem dX5_markOf_2 : decode cX5_markOf 2 = .ok (.iconst 0, 1) := by decide +kernel
theorem dX5_markOf_3 : decode cX5_markOf 3 = .ok (.istore_n 3, 1) := by decide +kernel
theorem dX5_markOf_4 : decode cX5_markOf 4 = .ok (.iload_n 3, 1) := by decide +kernel
theorem dX5_markOf_5 : decode cX5_markOf 5 = .ok (.aload_n 0, 1) := by decide +kernel
theorem dX5_markOf_6 : decode cX5_markOf 6 = .ok (.getfield 94, 3) := by decide +kernel
theorem dX5_markOf_9 : decode cX5_markOf 9 = .ok (.if_icmp .ge 40, 3) := by decide +kernel
theorem dX5_markOf_12 : decode cX5_markOf 12 = .ok (.aload_n 0, 1) := by decide +kernel
theorem dX5_markOf_13 : decode cX5_markOf 13 = .ok (.getfield 38, 3) := by decide +kernel
theorem dX5_markOf_16 : decode cX5_markOf 16 = .ok (.iload_n 3, 1) := by decide +kernel
theorem dX5_markOf_17 : decode cX5_markOf 17 = .ok (.iaload, 1) := by decide +kernel
theorem dX5_markOf_18 : decode cX5_markOf 18 = .ok (.iload_n 1, 1) := by decide +kernel
theorem dX5_markOf_19 : decode cX5_markOf 19 = .ok (.if_icmp .gt 24, 3) := by decide +kernel
theorem dX5_markOf_22 : decode cX5_markOf 22 = .ok (.iload_n 2, 1) := by decide +kernel
theorem dX5_markOf_23 : decode cX5_markOf 23 = .ok (.ifCond .lt 18, 3) := by decide +kernel
theorem dX5_markOf_26 : decode cX5_markOf 26 = .ok (.aload_n 0, 1) := by decide +kernel
theorem dX5_markOf_27 : decode cX5_markOf 27 = .ok (.getfield 38, 3) := by decide +kernel
theorem dX5_markOf_30 : decode cX5_markOf 30 = .ok (.iload_n 3, 1) := by decide +kernel
theorem dX5_markOf_31 : decode cX5_markOf 31 = .ok (.iaload, 1) := by decide +kernel
theorem dX5_markOf_32 : decode cX5_markOf 32 = .ok (.aload_n 0, 1) := by decide +kernel
theorem dX5_markOf_33 : decode cX5_markOf 33 = .ok (.getfield 38, 3) := by decide +kernel
theorem dX5_markOf_36 : decode cX5_markOf 36 = .ok (.iload_n 2, 1) := by decide +kernel
theorem dX5_markOf_37 : decode cX5_markOf 37 = .ok (.iaload, 1) := by decide +kernel
theorem dX5_markOf_38 : decode cX5_markOf 38 = .ok (.if_icmp .lt 5, 3) := by decide +kernel
theorem dX5_markOf_41 : decode cX5_markOf 41 = .ok (.iload_n 3, 1) := by decide +kernel
theorem dX5_markOf_42 : decode cX5_markOf 42 = .ok (.istore_n 2, 1) := by decide +kernel
theorem dX5_markOf_43 : decode cX5_markOf 43 = .ok (.iinc 3 1, 3) := by decide +kernel
theorem dX5_markOf_46 : decode cX5_markOf 46 = .ok (.goto (-42), 3) := by decide +kernel
theorem dX5_markOf_49 : decode cX5_markOf 49 = .ok (.iload_n 2, 1) := by decide +kernel
theorem dX5_markOf_50 : decode cX5_markOf 50 = .ok (.ifCond .ge 7, 3) := by decide +kernel
theorem dX5_markOf_53 : decode cX5_markOf 53 = .ok (.iconst (-1), 1) := by decide +kernel
theorem dX5_markOf_54 : decode cX5_markOf 54 = .ok (.goto 9, 3) := by decide +kernel
theorem dX5_markOf_57 : decode cX5_markOf 57 = .ok (.aload_n 0, 1) := by decide +kernel
theorem dX5_markOf_58 : decode cX5_markOf 58 = .ok (.getfield 41, 3) := by decide +kernel
theorem dX5_markOf_61 : decode cX5_markOf 61 = .ok (.iload_n 2, 1) := by decide +kernel
theorem dX5_markOf_62 : decode cX5_markOf 62 = .ok (.iaload, 1) := by decide +kernel
theorem dX5_markOf_63 : decode cX5_markOf 63 = .ok (.ireturn, 1) := by decide +kernel
theorem dX5_isWithout_0 : decode cX5_isWithout 0 = .ok (.aload_n 0, 1) := by decide +kernel
theorem dX5_isWithout_1 : decode cX5_isWithout 1 = .ok (.iload_n 1, 1) := by decide +kernel
theorem dX5_isWithout_2 : decode cX5_isWithout 2 = .ok (.invokevirtual 104, 3) := by decide +kernel
theorem dX5_isWithout_5 : decode cX5_isWithout 5 = .ok (.ifCond .eq 16, 3) := by decide +kernel
theorem dX5_isWithout_8 : decode cX5_isWithout 8 = .ok (.aload_n 0, 1) := by decide +kernel
theorem dX5_isWithout_9 : decode cX5_isWithout 9 = .ok (.aload_n 0, 1) := by decide +kernel
theorem dX5_isWithout_10 : decode cX5_isWithout 10 = .ok (.getfield 7, 3) := by decide +kernel
theorem dX5_isWithout_13 : decode cX5_isWithout 13 = .ok (.iload_n 1, 1) := by decide +kernel
theorem dX5_isWithout_14 : decode cX5_isWithout 14 = .ok (.iaload, 1) := by decide +kernel
theorem dX5_isWithout_15 : decode cX5_isWithout 15 = .ok (.invokevirtual 107, 3) := by decide +kernel
theorem dX5_isWithout_18 : decode cX5_isWithout 18 = .ok (.ifCond .ge 7, 3) := by decide +kernel
theorem dX5_isWithout_21 : decode cX5_isWithout 21 = .ok (.iconst 1, 1) := by decide +kernel
theorem dX5_isWithout_22 : decode cX5_isWithout 22 = .ok (.goto 4, 3) := by decide +kernel
theorem dX5_isWithout_25 : decode cX5_isWithout 25 = .ok (.iconst 0, 1) := by decide +kernel
theorem dX5_isWithout_26 : decode cX5_isWithout 26 = .ok (.ireturn, 1) := by decide +kernel
theorem dX5_isWithin_0 : decode cX5_isWithin 0 = .ok (.aload_n 0, 1) := by decide +kernel
theorem dX5_isWithin_1 : decode cX5_isWithin 1 = .ok (.iload_n 1, 1) := by decide +kernel
theorem dX5_isWithin_2 : decode cX5_isWithin 2 = .ok (.invokevirtual 111, 3) := by decide +kernel
theorem dX5_isWithin_5 : decode cX5_isWithin 5 = .ok (.ifCond .ne 33, 3) := by decide +kernel
theorem dX5_isWithin_8 : decode cX5_isWithin 8 = .ok (.aload_n 0, 1) := by decide +kernel
theorem dX5_isWithin_9 : decode cX5_isWithin 9 = .ok (.getfield 32, 3) := by decide +kernel
theorem dX5_isWithin_12 : decode cX5_isWithin 12 = .ok (.iload_n 1, 1) := by decide +kernel
theorem dX5_isWithin_13 : decode cX5_isWithin 13 = .ok (.iaload, 1) := by decide +kernel
theorem dX5_isWithin_14 : decode cX5_isWithin 14 = .ok (.aload_n 0, 1) := by decide +kernel
theorem dX5_isWithin_15 : decode cX5_isWithin 15 = .ok (.getfield 35, 3) := by decide +kernel
theorem dX5_isWithin_18 : decode cX5_isWithin 18 = .ok (.iload_n 1, 1) := by decide +kernel
theorem dX5_isWithin_19 : decode cX5_isWithin 19 = .ok (.iaload, 1) := by decide +kernel
theorem dX5_isWithin_20 : decode cX5_isWithin 20 = .ok (.iadd, 1) := by decide +kernel
theorem dX5_isWithin_21 : decode cX5_isWithin 21 = .ok (.aload_n 0, 1) := by decide +kernel
theorem dX5_isWithin_22 : decode cX5_isWithin 22 = .ok (.aload_n 0, 1) := by decide +kernel
theorem dX5_isWithin_23 : decode cX5_isWithin 23 = .ok (.getfield 7, 3) := by decide +kernel
theorem dX5_isWithin_26 : decode cX5_isWithin 26 = .ok (.iload_n 1, 1) := by decide +kernel
theorem dX5_isWithin_27 : decode cX5_isWithin 27 = .ok (.iaload, 1) := by decide +kernel
theorem dX5_isWithin_28 : decode cX5_isWithin 28 = .ok (.invokevirtual 107, 3) := by decide +kernel
theorem dX5_isWithin_31 : decode cX5_isWithin 31 = .ok (.if_icmp .gt 7, 3) := by decide +kernel
theorem dX5_isWithin_34 : decode cX5_isWithin 34 = .ok (.iconst 1, 1) := by decide +kernel
theorem dX5_isWithin_35 : decode cX5_isWithin 35 = .ok (.goto 4, 3) := by decide +kernel
theorem dX5_isWithin_38 : decode cX5_isWithin 38 = .ok (.iconst 0, 1) := by decide +kernel
theorem dX5_isWithin_39 : decode cX5_isWithin 39 = .ok (.ireturn, 1) := by decide +kernel
theorem dX5_sharesOf_0 : decode cX5_sharesOf 0 = .ok (.iconst 0, 1) := by decide +kernel
theorem dX5_sharesOf_1 : decode cX5_sharesOf 1 = .ok (.istore 4, 2) := by decide +kernel
theorem dX5_sharesOf_3 : decode cX5_sharesOf 3 = .ok (.iconst 0, 1) := by decide +kernel
theorem dX5_sharesOf_4 : decode cX5_sharesOf 4 = .ok (.istore 5, 2) := by decide +kernel
theorem dX5_sharesOf_6 : decode cX5_sharesOf 6 = .ok (.iload 5, 2) := by decide +kernel
theorem dX5_sharesOf_8 : decode cX5_sharesOf 8 = .ok (.aload_n 0, 1) := by decide +kernel
theorem dX5_sharesOf_9 : decode cX5_sharesOf 9 = .ok (.getfield 87, 3) := by decide +kernel
theorem dX5_sharesOf_12 : decode cX5_sharesOf 12 = .ok (.if_icmp .ge 63, 3) := by decide +kernel
theorem dX5_sharesOf_15 : decode cX5_sharesOf 15 = .ok (.aload_n 0, 1) := by decide +kernel
theorem dX5_sharesOf_16 : decode cX5_sharesOf 16 = .ok (.iload 5, 2) := by decide +kernel
theorem dX5_sharesOf_18 : decode cX5_sharesOf 18 = .ok (.iload_n 1, 1) := by decide +kernel
theorem dX5_sharesOf_19 : decode cX5_sharesOf 19 = .ok (.iload_n 2, 1) := by decide +kernel
theorem dX5_sharesOf_20 : decode cX5_sharesOf 20 = .ok (.aload_n 0, 1) := by decide +kernel
theorem dX5_sharesOf_21 : decode cX5_sharesOf 21 = .ok (.getfield 48, 3) := by decide +kernel
theorem dX5_sharesOf_24 : decode cX5_sharesOf 24 = .ok (.aload_n 0, 1) := by decide +kernel
theorem dX5_sharesOf_25 : decode cX5_sharesOf 25 = .ok (.getfield 51, 3) := by decide +kernel
theorem dX5_sharesOf_28 : decode cX5_sharesOf 28 = .ok (.invokevirtual 100, 3) := by decide +kernel
theorem dX5_sharesOf_31 : decode cX5_sharesOf 31 = .ok (.ifCond .eq 38, 3) := by decide +kernel
theorem dX5_sharesOf_34 : decode cX5_sharesOf 34 = .ok (.iload 4, 2) := by decide +kernel
theorem dX5_sharesOf_36 : decode cX5_sharesOf 36 = .ok (.iload_n 3, 1) := by decide +kernel
theorem dX5_sharesOf_37 : decode cX5_sharesOf 37 = .ok (.ifCond .ne 15, 3) := by decide +kernel
theorem dX5_sharesOf_40 : decode cX5_sharesOf 40 = .ok (.aload_n 0, 1) := by decide +kernel
theorem dX5_sharesOf_41 : decode cX5_sharesOf 41 = .ok (.iload 5, 2) := by decide +kernel
theorem dX5_sharesOf_43 : decode cX5_sharesOf 43 = .ok (.invokevirtual 114, 3) := by decide +kernel
theorem dX5_sharesOf_46 : decode cX5_sharesOf 46 = .ok (.ifCond .eq 19, 3) := by decide +kernel
theorem dX5_sharesOf_49 : decode cX5_sharesOf 49 = .ok (.goto 12, 3) := by decide +kernel
theorem dX5_sharesOf_52 : decode cX5_sharesOf 52 = .ok (.aload_n 0, 1) := by decide +kernel
theorem dX5_sharesOf_53 : decode cX5_sharesOf 53 = .ok (.iload 5, 2) := by decide +kernel
theorem dX5_sharesOf_55 : decode cX5_sharesOf 55 = .ok (.invokevirtual 111, 3) := by decide +kernel
theorem dX5_sharesOf_58 : decode cX5_sharesOf 58 = .ok (.ifCond .ne 7, 3) := by decide +kernel
theorem dX5_sharesOf_61 : decode cX5_sharesOf 61 = .ok (.iconst 1, 1) := by decide +kernel
theorem dX5_sharesOf_62 : decode cX5_sharesOf 62 = .ok (.goto 4, 3) := by decide +kernel
theorem dX5_sharesOf_65 : decode cX5_sharesOf 65 = .ok (.iconst 0, 1) := by decide +kernel
theorem dX5_sharesOf_66 : decode cX5_sharesOf 66 = .ok (.iadd, 1) := by decide +kernel
theorem dX5_sharesOf_67 : decode cX5_sharesOf 67 = .ok (.istore 4, 2) := by decide +kernel
theorem dX5_sharesOf_69 : decode cX5_sharesOf 69 = .ok (.iinc 5 1, 3) := by decide +kernel
theorem dX5_sharesOf_72 : decode cX5_sharesOf 72 = .ok (.goto (-66), 3) := by decide +kernel
theorem dX5_sharesOf_75 : decode cX5_sharesOf 75 = .ok (.iload 4, 2) := by decide +kernel
theorem dX5_sharesOf_77 : decode cX5_sharesOf 77 = .ok (.ireturn, 1) := by decide +kernel
theorem dX5_count_0 : decode cX5_count 0 = .ok (.aload_n 0, 1) := by decide +kernel
theorem dX5_count_1 : decode cX5_count 1 = .ok (.iload_n 1, 1) := by decide +kernel
theorem dX5_count_2 : decode cX5_count 2 = .ok (.iconst 0, 1) := by decide +kernel
theorem dX5_count_3 : decode cX5_count 3 = .ok (.iconst 4, 1) := by decide +kernel
theorem dX5_count_4 : decode cX5_count 4 = .ok (.invokestatic 79, 3) := by decide +kernel
theorem dX5_count_7 : decode cX5_count 7 = .ok (.ifCond .ne 7, 3) := by decide +kernel
theorem dX5_count_10 : decode cX5_count 10 = .ok (.iconst 1, 1) := by decide +kernel
theorem dX5_count_11 : decode cX5_count 11 = .ok (.goto 4, 3) := by decide +kernel
theorem dX5_count_14 : decode cX5_count 14 = .ok (.iconst 0, 1) := by decide +kernel
theorem dX5_count_15 : decode cX5_count 15 = .ok (.iconst 0, 1) := by decide +kernel
theorem dX5_count_16 : decode cX5_count 16 = .ok (.iconst 0, 1) := by decide +kernel
theorem dX5_count_17 : decode cX5_count 17 = .ok (.invokevirtual 90, 3) := by decide +kernel
theorem dX5_count_20 : decode cX5_count 20 = .ok (.ifCond .eq 5, 3) := by decide +kernel
theorem dX5_count_23 : decode cX5_count 23 = .ok (.iconst 0, 1) := by decide +kernel
theorem dX5_count_24 : decode cX5_count 24 = .ok (.ireturn, 1) := by decide +kernel
theorem dX5_count_25 : decode cX5_count 25 = .ok (.iconst 0, 1) := by decide +kernel
theorem dX5_count_26 : decode cX5_count 26 = .ok (.istore_n 2, 1) := by decide +kernel
theorem dX5_count_27 : decode cX5_count 27 = .ok (.iconst 0, 1) := by decide +kernel
theorem dX5_count_28 : decode cX5_count 28 = .ok (.istore_n 3, 1) := by decide +kernel
theorem dX5_count_29 : decode cX5_count 29 = .ok (.iload_n 3, 1) := by decide +kernel
theorem dX5_count_30 : decode cX5_count 30 = .ok (.aload_n 0, 1) := by decide +kernel
theorem dX5_count_31 : decode cX5_count 31 = .ok (.getfield 87, 3) := by decide +kernel
theorem dX5_count_34 : decode cX5_count 34 = .ok (.if_icmp .ge 108, 3) := by decide +kernel
theorem dX5_count_37 : decode cX5_count 37 = .ok (.aload_n 0, 1) := by decide +kernel
theorem dX5_count_38 : decode cX5_count 38 = .ok (.iload_n 3, 1) := by decide +kernel
theorem dX5_count_39 : decode cX5_count 39 = .ok (.invokevirtual 117, 3) := by decide +kernel
theorem dX5_count_42 : decode cX5_count 42 = .ok (.ifCond .eq 94, 3) := by decide +kernel
theorem dX5_count_45 : decode cX5_count 45 = .ok (.iload_n 1, 1) := by decide +kernel
theorem dX5_count_46 : decode cX5_count 46 = .ok (.ifCond .eq 43, 3) := by decide +kernel
theorem dX5_count_49 : decode cX5_count 49 = .ok (.iload_n 1, 1) := by decide +kernel
theorem dX5_count_50 : decode cX5_count 50 = .ok (.iconst 1, 1) := by decide +kernel
theorem dX5_count_51 : decode cX5_count 51 = .ok (.if_icmp .ne 12, 3) := by decide +kernel
theorem dX5_count_54 : decode cX5_count 54 = .ok (.aload_n 0, 1) := by decide +kernel
theorem dX5_count_55 : decode cX5_count 55 = .ok (.getfield 25, 3) := by decide +kernel
theorem dX5_count_58 : decode cX5_count 58 = .ok (.iload_n 3, 1) := by decide +kernel
theorem dX5_count_59 : decode cX5_count 59 = .ok (.baload, 1) := by decide +kernel
theorem dX5_count_60 : decode cX5_count 60 = .ok (.ifCond .ne 29, 3) := by decide +kernel
theorem dX5_count_63 : decode cX5_count 63 = .ok (.iload_n 1, 1) := by decide +kernel
theorem dX5_count_64 : decode cX5_count 64 = .ok (.iconst 2, 1) := by decide +kernel
theorem dX5_count_65 : decode cX5_count 65 = .ok (.if_icmp .ne 11, 3) := by decide +kernel
theorem dX5_count_68 : decode cX5_count 68 = .ok (.aload_n 0, 1) := by decide +kernel
theorem dX5_count_69 : decode cX5_count 69 = .ok (.iload_n 3, 1) := by decide +kernel
theorem dX5_count_70 : decode cX5_count 70 = .ok (.invokevirtual 114, 3) := by decide +kernel
theorem dX5_count_73 : decode cX5_count 73 = .ok (.ifCond .ne 16, 3) := by decide +kernel
theorem dX5_count_76 : decode cX5_count 76 = .ok (.iload_n 1, 1) := by decide +kernel
theorem dX5_count_77 : decode cX5_count 77 = .ok (.iconst 3, 1) := by decide +kernel
theorem dX5_count_78 : decode cX5_count 78 = .ok (.if_icmp .ne 15, 3) := by decide +kernel
theorem dX5_count_81 : decode cX5_count 81 = .ok (.aload_n 0, 1) := by decide +kernel
theorem dX5_count_82 : decode cX5_count 82 = .ok (.iload_n 3, 1) := by decide +kernel
theorem dX5_count_83 : decode cX5_count 83 = .ok (.invokevirtual 111, 3) := by decide +kernel
theorem dX5_count_86 : decode cX5_count 86 = .ok (.ifCond .eq 7, 3) := by decide +kernel
theorem dX5_count_89 : decode cX5_count 89 = .ok (.iconst 1, 1) := by decide +kernel
theorem dX5_count_90 : decode cX5_count 90 = .ok (.goto 4, 3) := by decide +kernel
theorem dX5_count_93 : decode cX5_count 93 = .ok (.iconst 0, 1) := by decide +kernel
theorem dX5_count_94 : decode cX5_count 94 = .ok (.istore 4, 2) := by decide +kernel
theorem dX5_count_96 : decode cX5_count 96 = .ok (.iload_n 2, 1) := by decide +kernel
theorem dX5_count_97 : decode cX5_count 97 = .ok (.iload_n 1, 1) := by decide +kernel
theorem dX5_count_98 : decode cX5_count 98 = .ok (.iconst 4, 1) := by decide +kernel
theorem dX5_count_99 : decode cX5_count 99 = .ok (.if_icmp .ne 25, 3) := by decide +kernel
theorem dX5_count_102 : decode cX5_count 102 = .ok (.aload_n 0, 1) := by decide +kernel
theorem dX5_count_103 : decode cX5_count 103 = .ok (.getfield 32, 3) := by decide +kernel
theorem dX5_count_106 : decode cX5_count 106 = .ok (.iload_n 3, 1) := by decide +kernel
theorem dX5_count_107 : decode cX5_count 107 = .ok (.iaload, 1) := by decide +kernel
theorem dX5_count_108 : decode cX5_count 108 = .ok (.ifCond .le 12, 3) := by decide +kernel
theorem dX5_count_111 : decode cX5_count 111 = .ok (.aload_n 0, 1) := by decide +kernel
theorem dX5_count_112 : decode cX5_count 112 = .ok (.getfield 32, 3) := by decide +kernel
theorem dX5_count_115 : decode cX5_count 115 = .ok (.iload_n 3, 1) := by decide +kernel
theorem dX5_count_116 : decode cX5_count 116 = .ok (.iaload, 1) := by decide +kernel
theorem dX5_count_117 : decode cX5_count 117 = .ok (.goto 17, 3) := by decide +kernel
theorem dX5_count_120 : decode cX5_count 120 = .ok (.iconst 0, 1) := by decide +kernel
theorem dX5_count_121 : decode cX5_count 121 = .ok (.goto 13, 3) := by decide +kernel
theorem dX5_count_124 : decode cX5_count 124 = .ok (.iload 4, 2) := by decide +kernel
theorem dX5_count_126 : decode cX5_count 126 = .ok (.ifCond .eq 7, 3) := by decide +kernel
theorem dX5_count_129 : decode cX5_count 129 = .ok (.iconst 1, 1) := by decide +kernel
theorem dX5_count_130 : decode cX5_count 130 = .ok (.goto 4, 3) := by decide +kernel
theorem dX5_count_133 : decode cX5_count 133 = .ok (.iconst 0, 1) := by decide +kernel
theorem dX5_count_134 : decode cX5_count 134 = .ok (.iadd, 1) := by decide +kernel
theorem dX5_count_135 : decode cX5_count 135 = .ok (.istore_n 2, 1) := by decide +kernel
theorem dX5_count_136 : decode cX5_count 136 = .ok (.iinc 3 1, 3) := by decide +kernel
theorem dX5_count_139 : decode cX5_count 139 = .ok (.goto (-110), 3) := by decide +kernel
theorem dX5_count_142 : decode cX5_count 142 = .ok (.iload_n 2, 1) := by decide +kernel
theorem dX5_count_143 : decode cX5_count 143 = .ok (.ireturn, 1) := by decide +kernel
theorem dX5_hour_0 : decode cX5_hour 0 = .ok (.aload_n 0, 1) := by decide +kernel
theorem dX5_hour_1 : decode cX5_hour 1 = .ok (.iload_n 1, 1) := by decide +kernel
theorem dX5_hour_2 : decode cX5_hour 2 = .ok (.iconst 0, 1) := by decide +kernel
theorem dX5_hour_3 : decode cX5_hour 3 = .ok (.bipush 23, 2) := by decide +kernel
theorem dX5_hour_5 : decode cX5_hour 5 = .ok (.invokestatic 79, 3) := by decide +kernel
theorem dX5_hour_8 : decode cX5_hour 8 = .ok (.ifCond .ne 7, 3) := by decide +kernel
theorem dX5_hour_11 : decode cX5_hour 11 = .ok (.iconst 1, 1) := by decide +kernel
theorem dX5_hour_12 : decode cX5_hour 12 = .ok (.goto 4, 3) := by decide +kernel
theorem dX5_hour_15 : decode cX5_hour 15 = .ok (.iconst 0, 1) := by decide +kernel
theorem dX5_hour_16 : decode cX5_hour 16 = .ok (.iconst 0, 1) := by decide +kernel
theorem dX5_hour_17 : decode cX5_hour 17 = .ok (.iconst 0, 1) := by decide +kernel
theorem dX5_hour_18 : decode cX5_hour 18 = .ok (.invokevirtual 90, 3) := by decide +kernel
theorem dX5_hour_21 : decode cX5_hour 21 = .ok (.ifCond .eq 5, 3) := by decide +kernel
theorem dX5_hour_24 : decode cX5_hour 24 = .ok (.iconst 0, 1) := by decide +kernel
theorem dX5_hour_25 : decode cX5_hour 25 = .ok (.ireturn, 1) := by decide +kernel
theorem dX5_hour_26 : decode cX5_hour 26 = .ok (.iconst 0, 1) := by decide +kernel
theorem dX5_hour_27 : decode cX5_hour 27 = .ok (.istore_n 2, 1) := by decide +kernel
theorem dX5_hour_28 : decode cX5_hour 28 = .ok (.iconst 0, 1) := by decide +kernel
theorem dX5_hour_29 : decode cX5_hour 29 = .ok (.istore_n 3, 1) := by decide +kernel
theorem dX5_hour_30 : decode cX5_hour 30 = .ok (.iload_n 3, 1) := by decide +kernel
theorem dX5_hour_31 : decode cX5_hour 31 = .ok (.aload_n 0, 1) := by decide +kernel
theorem dX5_hour_32 : decode cX5_hour 32 = .ok (.getfield 87, 3) := by decide +kernel
theorem dX5_hour_35 : decode cX5_hour 35 = .ok (.if_icmp .ge 35, 3) := by decide +kernel
theorem dX5_hour_38 : decode cX5_hour 38 = .ok (.iload_n 2, 1) := by decide +kernel
theorem dX5_hour_39 : decode cX5_hour 39 = .ok (.aload_n 0, 1) := by decide +kernel
theorem dX5_hour_40 : decode cX5_hour 40 = .ok (.iload_n 3, 1) := by decide +kernel
theorem dX5_hour_41 : decode cX5_hour 41 = .ok (.invokevirtual 117, 3) := by decide +kernel
theorem dX5_hour_44 : decode cX5_hour 44 = .ok (.ifCond .eq 17, 3) := by decide +kernel
theorem dX5_hour_47 : decode cX5_hour 47 = .ok (.aload_n 0, 1) := by decide +kernel
theorem dX5_hour_48 : decode cX5_hour 48 = .ok (.getfield 13, 3) := by decide +kernel
theorem dX5_hour_51 : decode cX5_hour 51 = .ok (.iload_n 3, 1) := by decide +kernel
theorem dX5_hour_52 : decode cX5_hour 52 = .ok (.iaload, 1) := by decide +kernel
theorem dX5_hour_53 : decode cX5_hour 53 = .ok (.iload_n 1, 1) := by decide +kernel
theorem dX5_hour_54 : decode cX5_hour 54 = .ok (.if_icmp .ne 7, 3) := by decide +kernel
theorem dX5_hour_57 : decode cX5_hour 57 = .ok (.iconst 1, 1) := by decide +kernel
theorem dX5_hour_58 : decode cX5_hour 58 = .ok (.goto 4, 3) := by decide +kernel
theorem dX5_hour_61 : decode cX5_hour 61 = .ok (.iconst 0, 1) := by decide +kernel
theorem dX5_hour_62 : decode cX5_hour 62 = .ok (.iadd, 1) := by decide +kernel
theorem dX5_hour_63 : decode cX5_hour 63 = .ok (.istore_n 2, 1) := by decide +kernel
theorem dX5_hour_64 : decode cX5_hour 64 = .ok (.iinc 3 1, 3) := by decide +kernel
theorem dX5_hour_67 : decode cX5_hour 67 = .ok (.goto (-37), 3) := by decide +kernel
theorem dX5_hour_70 : decode cX5_hour 70 = .ok (.iload_n 2, 1) := by decide +kernel
theorem dX5_hour_71 : decode cX5_hour 71 = .ok (.ireturn, 1) := by decide +kernel
theorem dX5_common_0 : decode cX5_common 0 = .ok (.iload_n 0, 1) := by decide +kernel
theorem dX5_common_1 : decode cX5_common 1 = .ok (.istore_n 2, 1) := by decide +kernel
theorem dX5_common_2 : decode cX5_common 2 = .ok (.iload_n 1, 1) := by decide +kernel
theorem dX5_common_3 : decode cX5_common 3 = .ok (.istore_n 3, 1) := by decide +kernel
theorem dX5_common_4 : decode cX5_common 4 = .ok (.iload_n 3, 1) := by decide +kernel
theorem dX5_common_5 : decode cX5_common 5 = .ok (.ifCond .le 16, 3) := by decide +kernel
theorem dX5_common_8 : decode cX5_common 8 = .ok (.iload_n 2, 1) := by decide +kernel
theorem dX5_common_9 : decode cX5_common 9 = .ok (.iload_n 3, 1) := by decide +kernel
theorem dX5_common_10 : decode cX5_common 10 = .ok (.irem, 1) := by decide +kernel
theorem dX5_common_11 : decode cX5_common 11 = .ok (.istore 4, 2) := by decide +kernel
theorem dX5_common_13 : decode cX5_common 13 = .ok (.iload_n 3, 1) := by decide +kernel
theorem dX5_common_14 : decode cX5_common 14 = .ok (.istore_n 2, 1) := by decide +kernel
theorem dX5_common_15 : decode cX5_common 15 = .ok (.iload 4, 2) := by decide +kernel
theorem dX5_common_17 : decode cX5_common 17 = .ok (.istore_n 3, 1) := by decide +kernel
theorem dX5_common_18 : decode cX5_common 18 = .ok (.goto (-14), 3) := by decide +kernel
theorem dX5_common_21 : decode cX5_common 21 = .ok (.iload_n 2, 1) := by decide +kernel
theorem dX5_common_22 : decode cX5_common 22 = .ok (.ireturn, 1) := by decide +kernel
theorem dX5_share_0 : decode cX5_share 0 = .ok (.aload_n 0, 1) := by decide +kernel
theorem dX5_share_1 : decode cX5_share 1 = .ok (.aload_n 0, 1) := by decide +kernel
theorem dX5_share_2 : decode cX5_share 2 = .ok (.getfield 97, 3) := by decide +kernel
theorem dX5_share_5 : decode cX5_share 5 = .ok (.aload_n 0, 1) := by decide +kernel
theorem dX5_share_6 : decode cX5_share 6 = .ok (.getfield 44, 3) := by decide +kernel
theorem dX5_share_9 : decode cX5_share 9 = .ok (.iconst 0, 1) := by decide +kernel
theorem dX5_share_10 : decode cX5_share 10 = .ok (.invokevirtual 120, 3) := by decide +kernel
theorem dX5_share_13 : decode cX5_share 13 = .ok (.istore_n 2, 1) := by decide +kernel
theorem dX5_share_14 : decode cX5_share 14 = .ok (.aload_n 0, 1) := by decide +kernel
theorem dX5_share_15 : decode cX5_share 15 = .ok (.aload_n 0, 1) := by decide +kernel
theorem dX5_share_16 : decode cX5_share 16 = .ok (.getfield 97, 3) := by decide +kernel
theorem dX5_share_19 : decode cX5_share 19 = .ok (.aload_n 0, 1) := by decide +kernel
theorem dX5_share_20 : decode cX5_share 20 = .ok (.getfield 44, 3) := by decide +kernel
theorem dX5_share_23 : decode cX5_share 23 = .ok (.iconst 1, 1) := by decide +kernel
theorem dX5_share_24 : decode cX5_share 24 = .ok (.invokevirtual 120, 3) := by decide +kernel
theorem dX5_share_27 : decode cX5_share 27 = .ok (.istore_n 3, 1) := by decide +kernel
theorem dX5_share_28 : decode cX5_share 28 = .ok (.aload_n 0, 1) := by decide +kernel
theorem dX5_share_29 : decode cX5_share 29 = .ok (.iload_n 1, 1) := by decide +kernel
theorem dX5_share_30 : decode cX5_share 30 = .ok (.iconst 0, 1) := by decide +kernel
theorem dX5_share_31 : decode cX5_share 31 = .ok (.iconst 1, 1) := by decide +kernel
theorem dX5_share_32 : decode cX5_share 32 = .ok (.invokestatic 79, 3) := by decide +kernel
theorem dX5_share_35 : decode cX5_share 35 = .ok (.ifCond .ne 7, 3) := by decide +kernel
theorem dX5_share_38 : decode cX5_share 38 = .ok (.iconst 1, 1) := by decide +kernel
theorem dX5_share_39 : decode cX5_share 39 = .ok (.goto 4, 3) := by decide +kernel
theorem dX5_share_42 : decode cX5_share 42 = .ok (.iconst 0, 1) := by decide +kernel
theorem dX5_share_43 : decode cX5_share 43 = .ok (.iload_n 3, 1) := by decide +kernel
theorem dX5_share_44 : decode cX5_share 44 = .ok (.ifCond .ne 7, 3) := by decide +kernel
theorem dX5_share_47 : decode cX5_share 47 = .ok (.iconst 1, 1) := by decide +kernel
theorem dX5_share_48 : decode cX5_share 48 = .ok (.goto 4, 3) := by decide +kernel
theorem dX5_share_51 : decode cX5_share 51 = .ok (.iconst 0, 1) := by decide +kernel
theorem dX5_share_52 : decode cX5_share 52 = .ok (.iconst 0, 1) := by decide +kernel
theorem dX5_share_53 : decode cX5_share 53 = .ok (.invokevirtual 90, 3) := by decide +kernel
theorem dX5_share_56 : decode cX5_share 56 = .ok (.ifCond .eq 5, 3) := by decide +kernel
theorem dX5_share_59 : decode cX5_share 59 = .ok (.iconst 0, 1) := by decide +kernel
theorem dX5_share_60 : decode cX5_share 60 = .ok (.ireturn, 1) := by decide +kernel
theorem dX5_share_61 : decode cX5_share 61 = .ok (.iload_n 1, 1) := by decide +kernel
theorem dX5_share_62 : decode cX5_share 62 = .ok (.ifCond .ne 7, 3) := by decide +kernel
theorem dX5_share_65 : decode cX5_share 65 = .ok (.iload_n 2, 1) := by decide +kernel
theorem dX5_share_66 : decode cX5_share 66 = .ok (.goto 4, 3) := by decide +kernel
theorem dX5_share_69 : decode cX5_share 69 = .ok (.iload_n 3, 1) := by decide +kernel
theorem dX5_share_70 : decode cX5_share 70 = .ok (.iload_n 2, 1) := by decide +kernel
theorem dX5_share_71 : decode cX5_share 71 = .ok (.iload_n 3, 1) := by decide +kernel
theorem dX5_share_72 : decode cX5_share 72 = .ok (.invokestatic 124, 3) := by decide +kernel
theorem dX5_share_75 : decode cX5_share 75 = .ok (.idiv, 1) := by decide +kernel
theorem dX5_share_76 : decode cX5_share 76 = .ok (.ireturn, 1) := by decide +kernel
theorem dX5_sumOf_0 : decode cX5_sumOf 0 = .ok (.aload_n 0, 1) := by decide +kernel
theorem dX5_sumOf_1 : decode cX5_sumOf 1 = .ok (.getfield 32, 3) := by decide +kernel
theorem dX5_sumOf_4 : decode cX5_sumOf 4 = .ok (.iload_n 1, 1) := by decide +kernel
theorem dX5_sumOf_5 : decode cX5_sumOf 5 = .ok (.iaload, 1) := by decide +kernel
theorem dX5_sumOf_6 : decode cX5_sumOf 6 = .ok (.aload_n 0, 1) := by decide +kernel
theorem dX5_sumOf_7 : decode cX5_sumOf 7 = .ok (.getfield 35, 3) := by decide +kernel
theorem dX5_sumOf_10 : decode cX5_sumOf 10 = .ok (.iload_n 1, 1) := by decide +kernel
theorem dX5_sumOf_11 : decode cX5_sumOf 11 = .ok (.iaload, 1) := by decide +kernel
theorem dX5_sumOf_12 : decode cX5_sumOf 12 = .ok (.iadd, 1) := by decide +kernel
theorem dX5_sumOf_13 : decode cX5_sumOf 13 = .ok (.ireturn, 1) := by decide +kernel
theorem dX5_placed_0 : decode cX5_placed 0 = .ok (.aload_n 0, 1) := by decide +kernel
theorem dX5_placed_1 : decode cX5_placed 1 = .ok (.iload_n 1, 1) := by decide +kernel
theorem dX5_placed_2 : decode cX5_placed 2 = .ok (.iconst 1, 1) := by decide +kernel
theorem dX5_placed_3 : decode cX5_placed 3 = .ok (.bipush 100, 2) := by decide +kernel
theorem dX5_placed_5 : decode cX5_placed 5 = .ok (.invokestatic 79, 3) := by decide +kernel
theorem dX5_placed_8 : decode cX5_placed 8 = .ok (.ifCond .ne 7, 3) := by decide +kernel
theorem dX5_placed_11 : decode cX5_placed 11 = .ok (.iconst 1, 1) := by decide +kernel
theorem dX5_placed_12 : decode cX5_placed 12 = .ok (.goto 4, 3) := by decide +kernel
theorem dX5_placed_15 : decode cX5_placed 15 = .ok (.iconst 0, 1) := by decide +kernel
theorem dX5_placed_16 : decode cX5_placed 16 = .ok (.iconst 0, 1) := by decide +kernel
theorem dX5_placed_17 : decode cX5_placed 17 = .ok (.iconst 0, 1) := by decide +kernel
theorem dX5_placed_18 : decode cX5_placed 18 = .ok (.invokevirtual 90, 3) := by decide +kernel
theorem dX5_placed_21 : decode cX5_placed 21 = .ok (.ifCond .eq 5, 3) := by decide +kernel
theorem dX5_placed_24 : decode cX5_placed 24 = .ok (.iconst 0, 1) := by decide +kernel
theorem dX5_placed_25 : decode cX5_placed 25 = .ok (.ireturn, 1) := by decide +kernel
theorem dX5_placed_26 : decode cX5_placed 26 = .ok (.iconst 0, 1) := by decide +kernel
theorem dX5_placed_27 : decode cX5_placed 27 = .ok (.istore_n 2, 1) := by decide +kernel
theorem dX5_placed_28 : decode cX5_placed 28 = .ok (.iconst 0, 1) := by decide +kernel
theorem dX5_placed_29 : decode cX5_placed 29 = .ok (.istore_n 3, 1) := by decide +kernel
theorem dX5_placed_30 : decode cX5_placed 30 = .ok (.iload_n 3, 1) := by decide +kernel
theorem dX5_placed_31 : decode cX5_placed 31 = .ok (.aload_n 0, 1) := by decide +kernel
theorem dX5_placed_32 : decode cX5_placed 32 = .ok (.getfield 87, 3) := by decide +kernel
theorem dX5_placed_35 : decode cX5_placed 35 = .ok (.if_icmp .ge 33, 3) := by decide +kernel
theorem dX5_placed_38 : decode cX5_placed 38 = .ok (.iload_n 2, 1) := by decide +kernel
theorem dX5_placed_39 : decode cX5_placed 39 = .ok (.aload_n 0, 1) := by decide +kernel
theorem dX5_placed_40 : decode cX5_placed 40 = .ok (.iload_n 3, 1) := by decide +kernel
theorem dX5_placed_41 : decode cX5_placed 41 = .ok (.invokevirtual 117, 3) := by decide +kernel
theorem dX5_placed_44 : decode cX5_placed 44 = .ok (.ifCond .eq 15, 3) := by decide +kernel
theorem dX5_placed_47 : decode cX5_placed 47 = .ok (.aload_n 0, 1) := by decide +kernel
theorem dX5_placed_48 : decode cX5_placed 48 = .ok (.iload_n 3, 1) := by decide +kernel
theorem dX5_placed_49 : decode cX5_placed 49 = .ok (.invokevirtual 104, 3) := by decide +kernel
theorem dX5_placed_52 : decode cX5_placed 52 = .ok (.ifCond .eq 7, 3) := by decide +kernel
theorem dX5_placed_55 : decode cX5_placed 55 = .ok (.iconst 1, 1) := by decide +kernel
theorem dX5_placed_56 : decode cX5_placed 56 = .ok (.goto 4, 3) := by decide +kernel
theorem dX5_placed_59 : decode cX5_placed 59 = .ok (.iconst 0, 1) := by decide +kernel
theorem dX5_placed_60 : decode cX5_placed 60 = .ok (.iadd, 1) := by decide +kernel
theorem dX5_placed_61 : decode cX5_placed 61 = .ok (.istore_n 2, 1) := by decide +kernel
theorem dX5_placed_62 : decode cX5_placed 62 = .ok (.iinc 3 1, 3) := by decide +kernel
theorem dX5_placed_65 : decode cX5_placed 65 = .ok (.goto (-35), 3) := by decide +kernel
theorem dX5_placed_68 : decode cX5_placed 68 = .ok (.iload_n 2, 1) := by decide +kernel
theorem dX5_placed_69 : decode cX5_placed 69 = .ok (.ifCond .ne 5, 3) := by decide +kernel
theorem dX5_placed_72 : decode cX5_placed 72 = .ok (.iconst (-1), 1) := by decide +kernel
theorem dX5_placed_73 : decode cX5_placed 73 = .ok (.ireturn, 1) := by decide +kernel
theorem dX5_placed_74 : decode cX5_placed 74 = .ok (.iconst 0, 1) := by decide +kernel
theorem dX5_placed_75 : decode cX5_placed 75 = .ok (.istore_n 3, 1) := by decide +kernel
theorem dX5_placed_76 : decode cX5_placed 76 = .ok (.iconst 0, 1) := by decide +kernel
theorem dX5_placed_77 : decode cX5_placed 77 = .ok (.istore 4, 2) := by decide +kernel
theorem dX5_placed_79 : decode cX5_placed 79 = .ok (.iload 4, 2) := by decide +kernel
theorem dX5_placed_81 : decode cX5_placed 81 = .ok (.aload_n 0, 1) := by decide +kernel
theorem dX5_placed_82 : decode cX5_placed 82 = .ok (.getfield 87, 3) := by decide +kernel
theorem dX5_placed_85 : decode cX5_placed 85 = .ok (.if_icmp .ge 91, 3) := by decide +kernel
theorem dX5_placed_88 : decode cX5_placed 88 = .ok (.aload_n 0, 1) := by decide +kernel
theorem dX5_placed_89 : decode cX5_placed 89 = .ok (.iload 4, 2) := by decide +kernel
theorem dX5_placed_91 : decode cX5_placed 91 = .ok (.invokevirtual 117, 3) := by decide +kernel
theorem dX5_placed_94 : decode cX5_placed 94 = .ok (.ifCond .eq 76, 3) := by decide +kernel
theorem dX5_placed_97 : decode cX5_placed 97 = .ok (.aload_n 0, 1) := by decide +kernel
theorem dX5_placed_98 : decode cX5_placed 98 = .ok (.iload 4, 2) := by decide +kernel
theorem dX5_placed_100 : decode cX5_placed 100 = .ok (.invokevirtual 104, 3) := by decide +kernel
theorem dX5_placed_103 : decode cX5_placed 103 = .ok (.ifCond .eq 67, 3) := by decide +kernel
theorem dX5_placed_106 : decode cX5_placed 106 = .ok (.iload_n 3, 1) := by decide +kernel
theorem dX5_placed_107 : decode cX5_placed 107 = .ok (.istore 5, 2) := by decide +kernel
theorem dX5_placed_109 : decode cX5_placed 109 = .ok (.iload 5, 2) := by decide +kernel
theorem dX5_placed_111 : decode cX5_placed 111 = .ok (.ifCond .le 43, 3) := by decide +kernel
theorem dX5_placed_114 : decode cX5_placed 114 = .ok (.aload_n 0, 1) := by decide +kernel
theorem dX5_placed_115 : decode cX5_placed 115 = .ok (.getfield 66, 3) := by decide +kernel
theorem dX5_placed_118 : decode cX5_placed 118 = .ok (.iload 5, 2) := by decide +kernel
theorem dX5_placed_120 : decode cX5_placed 120 = .ok (.iconst 1, 1) := by decide +kernel
theorem dX5_placed_121 : decode cX5_placed 121 = .ok (.isub, 1) := by decide +kernel
theorem dX5_placed_122 : decode cX5_placed 122 = .ok (.iaload, 1) := by decide +kernel
theorem dX5_placed_123 : decode cX5_placed 123 = .ok (.aload_n 0, 1) := by decide +kernel
theorem dX5_placed_124 : decode cX5_placed 124 = .ok (.iload 4, 2) := by decide +kernel
theorem dX5_placed_126 : decode cX5_placed 126 = .ok (.invokevirtual 128, 3) := by decide +kernel
theorem dX5_placed_129 : decode cX5_placed 129 = .ok (.if_icmp .le 25, 3) := by decide +kernel
theorem dX5_placed_132 : decode cX5_placed 132 = .ok (.aload_n 0, 1) := by decide +kernel
theorem dX5_placed_133 : decode cX5_placed 133 = .ok (.getfield 66, 3) := by decide +kernel
theorem dX5_placed_136 : decode cX5_placed 136 = .ok (.iload 5, 2) := by decide +kernel
theorem dX5_placed_138 : decode cX5_placed 138 = .ok (.aload_n 0, 1) := by decide +kernel
theorem dX5_placed_139 : decode cX5_placed 139 = .ok (.getfield 66, 3) := by decide +kernel
theorem dX5_placed_142 : decode cX5_placed 142 = .ok (.iload 5, 2) := by decide +kernel
theorem dX5_placed_144 : decode cX5_placed 144 = .ok (.iconst 1, 1) := by decide +kernel
theorem dX5_placed_145 : decode cX5_placed 145 = .ok (.isub, 1) := by decide +kernel
theorem dX5_placed_146 : decode cX5_placed 146 = .ok (.iaload, 1) := by decide +kernel
theorem dX5_placed_147 : decode cX5_placed 147 = .ok (.iastore, 1) := by decide +kernel
theorem dX5_placed_148 : decode cX5_placed 148 = .ok (.iinc 5 (-1), 3) := by decide +kernel
theorem dX5_placed_151 : decode cX5_placed 151 = .ok (.goto (-42), 3) := by decide +kernel
theorem dX5_placed_154 : decode cX5_placed 154 = .ok (.aload_n 0, 1) := by decide +kernel
theorem dX5_placed_155 : decode cX5_placed 155 = .ok (.getfield 66, 3) := by decide +kernel
theorem dX5_placed_158 : decode cX5_placed 158 = .ok (.iload 5, 2) := by decide +kernel
theorem dX5_placed_160 : decode cX5_placed 160 = .ok (.aload_n 0, 1) := by decide +kernel
theorem dX5_placed_161 : decode cX5_placed 161 = .ok (.iload 4, 2) := by decide +kernel
theorem dX5_placed_163 : decode cX5_placed 163 = .ok (.invokevirtual 128, 3) := by decide +kernel
theorem dX5_placed_166 : decode cX5_placed 166 = .ok (.iastore, 1) := by decide +kernel
theorem dX5_placed_167 : decode cX5_placed 167 = .ok (.iinc 3 1, 3) := by decide +kernel
theorem dX5_placed_170 : decode cX5_placed 170 = .ok (.iinc 4 1, 3) := by decide +kernel
theorem dX5_placed_173 : decode cX5_placed 173 = .ok (.goto (-94), 3) := by decide +kernel
theorem dX5_placed_176 : decode cX5_placed 176 = .ok (.aload_n 0, 1) := by decide +kernel
theorem dX5_placed_177 : decode cX5_placed 177 = .ok (.getfield 66, 3) := by decide +kernel
theorem dX5_placed_180 : decode cX5_placed 180 = .ok (.iload_n 1, 1) := by decide +kernel
theorem dX5_placed_181 : decode cX5_placed 181 = .ok (.iload_n 2, 1) := by decide +kernel
theorem dX5_placed_182 : decode cX5_placed 182 = .ok (.imul, 1) := by decide +kernel
theorem dX5_placed_183 : decode cX5_placed 183 = .ok (.bipush 99, 2) := by decide +kernel
theorem dX5_placed_185 : decode cX5_placed 185 = .ok (.iadd, 1) := by decide +kernel
theorem dX5_placed_186 : decode cX5_placed 186 = .ok (.bipush 100, 2) := by decide +kernel
theorem dX5_placed_188 : decode cX5_placed 188 = .ok (.idiv, 1) := by decide +kernel
theorem dX5_placed_189 : decode cX5_placed 189 = .ok (.iconst 1, 1) := by decide +kernel
theorem dX5_placed_190 : decode cX5_placed 190 = .ok (.isub, 1) := by decide +kernel
theorem dX5_placed_191 : decode cX5_placed 191 = .ok (.iaload, 1) := by decide +kernel
theorem dX5_placed_192 : decode cX5_placed 192 = .ok (.ireturn, 1) := by decide +kernel
theorem dX5_splits_0 : decode cX5_splits 0 = .ok (.aload_n 0, 1) := by decide +kernel
theorem dX5_splits_1 : decode cX5_splits 1 = .ok (.iconst 0, 1) := by decide +kernel
theorem dX5_splits_2 : decode cX5_splits 2 = .ok (.putfield 72, 3) := by decide +kernel
theorem dX5_splits_5 : decode cX5_splits 5 = .ok (.iconst 0, 1) := by decide +kernel
theorem dX5_splits_6 : decode cX5_splits 6 = .ok (.istore_n 1, 1) := by decide +kernel
theorem dX5_splits_7 : decode cX5_splits 7 = .ok (.aload_n 0, 1) := by decide +kernel
theorem dX5_splits_8 : decode cX5_splits 8 = .ok (.getfield 97, 3) := by decide +kernel
theorem dX5_splits_11 : decode cX5_splits 11 = .ok (.iconst 1, 1) := by decide +kernel
theorem dX5_splits_12 : decode cX5_splits 12 = .ok (.iadd, 1) := by decide +kernel
theorem dX5_splits_13 : decode cX5_splits 13 = .ok (.istore_n 2, 1) := by decide +kernel
theorem dX5_splits_14 : decode cX5_splits 14 = .ok (.iload_n 2, 1) := by decide +kernel
theorem dX5_splits_15 : decode cX5_splits 15 = .ok (.aload_n 0, 1) := by decide +kernel
theorem dX5_splits_16 : decode cX5_splits 16 = .ok (.getfield 44, 3) := by decide +kernel
theorem dX5_splits_19 : decode cX5_splits 19 = .ok (.if_icmp .gt 32, 3) := by decide +kernel
theorem dX5_splits_22 : decode cX5_splits 22 = .ok (.iload_n 1, 1) := by decide +kernel
theorem dX5_splits_23 : decode cX5_splits 23 = .ok (.aload_n 0, 1) := by decide +kernel
theorem dX5_splits_24 : decode cX5_splits 24 = .ok (.iload_n 2, 1) := by decide +kernel
theorem dX5_splits_25 : decode cX5_splits 25 = .ok (.invokevirtual 107, 3) := by decide +kernel
theorem dX5_splits_28 : decode cX5_splits 28 = .ok (.aload_n 0, 1) := by decide +kernel
theorem dX5_splits_29 : decode cX5_splits 29 = .ok (.iload_n 2, 1) := by decide +kernel
theorem dX5_splits_30 : decode cX5_splits 30 = .ok (.iconst 1, 1) := by decide +kernel
theorem dX5_splits_31 : decode cX5_splits 31 = .ok (.isub, 1) := by decide +kernel
theorem dX5_splits_32 : decode cX5_splits 32 = .ok (.invokevirtual 107, 3) := by decide +kernel
theorem dX5_splits_35 : decode cX5_splits 35 = .ok (.if_icmp .eq 7, 3) := by decide +kernel
theorem dX5_splits_38 : decode cX5_splits 38 = .ok (.iconst 1, 1) := by decide +kernel
theorem dX5_splits_39 : decode cX5_splits 39 = .ok (.goto 4, 3) := by decide +kernel
theorem dX5_splits_42 : decode cX5_splits 42 = .ok (.iconst 0, 1) := by decide +kernel
theorem dX5_splits_43 : decode cX5_splits 43 = .ok (.iadd, 1) := by decide +kernel
theorem dX5_splits_44 : decode cX5_splits 44 = .ok (.istore_n 1, 1) := by decide +kernel
theorem dX5_splits_45 : decode cX5_splits 45 = .ok (.iinc 2 1, 3) := by decide +kernel
theorem dX5_splits_48 : decode cX5_splits 48 = .ok (.goto (-34), 3) := by decide +kernel
theorem dX5_splits_51 : decode cX5_splits 51 = .ok (.iload_n 1, 1) := by decide +kernel
theorem dX5_splits_52 : decode cX5_splits 52 = .ok (.ireturn, 1) := by decide +kernel
theorem dX5_compare_0 : decode cX5_compare 0 = .ok (.iload_n 1, 1) := by decide +kernel
theorem dX5_compare_1 : decode cX5_compare 1 = .ok (.invokestatic 83, 3) := by decide +kernel
theorem dX5_compare_4 : decode cX5_compare 4 = .ok (.ifCond .eq 15, 3) := by decide +kernel
theorem dX5_compare_7 : decode cX5_compare 7 = .ok (.iload_n 2, 1) := by decide +kernel
theorem dX5_compare_8 : decode cX5_compare 8 = .ok (.invokestatic 83, 3) := by decide +kernel
theorem dX5_compare_11 : decode cX5_compare 11 = .ok (.ifCond .eq 8, 3) := by decide +kernel
theorem dX5_compare_14 : decode cX5_compare 14 = .ok (.iload_n 2, 1) := by decide +kernel
theorem dX5_compare_15 : decode cX5_compare 15 = .ok (.iload_n 1, 1) := by decide +kernel
theorem dX5_compare_16 : decode cX5_compare 16 = .ok (.if_icmp .ge 7, 3) := by decide +kernel
theorem dX5_compare_19 : decode cX5_compare 19 = .ok (.iconst 1, 1) := by decide +kernel
theorem dX5_compare_20 : decode cX5_compare 20 = .ok (.goto 4, 3) := by decide +kernel
theorem dX5_compare_23 : decode cX5_compare 23 = .ok (.iconst 0, 1) := by decide +kernel
theorem dX5_compare_24 : decode cX5_compare 24 = .ok (.istore_n 3, 1) := by decide +kernel
theorem dX5_compare_25 : decode cX5_compare 25 = .ok (.aload_n 0, 1) := by decide +kernel
theorem dX5_compare_26 : decode cX5_compare 26 = .ok (.aload_n 0, 1) := by decide +kernel
theorem dX5_compare_27 : decode cX5_compare 27 = .ok (.getfield 97, 3) := by decide +kernel
theorem dX5_compare_30 : decode cX5_compare 30 = .ok (.aload_n 0, 1) := by decide +kernel
theorem dX5_compare_31 : decode cX5_compare 31 = .ok (.getfield 44, 3) := by decide +kernel
theorem dX5_compare_34 : decode cX5_compare 34 = .ok (.iconst 0, 1) := by decide +kernel
theorem dX5_compare_35 : decode cX5_compare 35 = .ok (.invokevirtual 120, 3) := by decide +kernel
theorem dX5_compare_38 : decode cX5_compare 38 = .ok (.i2l, 1) := by decide +kernel
theorem dX5_compare_39 : decode cX5_compare 39 = .ok (.lstore 4, 2) := by decide +kernel
theorem dX5_compare_41 : decode cX5_compare 41 = .ok (.aload_n 0, 1) := by decide +kernel
theorem dX5_compare_42 : decode cX5_compare 42 = .ok (.aload_n 0, 1) := by decide +kernel
theorem dX5_compare_43 : decode cX5_compare 43 = .ok (.getfield 97, 3) := by decide +kernel
theorem dX5_compare_46 : decode cX5_compare 46 = .ok (.aload_n 0, 1) := by decide +kernel
theorem dX5_compare_47 : decode cX5_compare 47 = .ok (.getfield 44, 3) := by decide +kernel
theorem dX5_compare_50 : decode cX5_compare 50 = .ok (.iconst 1, 1) := by decide +kernel
theorem dX5_compare_51 : decode cX5_compare 51 = .ok (.invokevirtual 120, 3) := by decide +kernel
theorem dX5_compare_54 : decode cX5_compare 54 = .ok (.i2l, 1) := by decide +kernel
theorem dX5_compare_55 : decode cX5_compare 55 = .ok (.lstore 6, 2) := by decide +kernel
theorem dX5_compare_57 : decode cX5_compare 57 = .ok (.iload_n 3, 1) := by decide +kernel
theorem dX5_compare_58 : decode cX5_compare 58 = .ok (.ifCond .eq 7, 3) := by decide +kernel
theorem dX5_compare_61 : decode cX5_compare 61 = .ok (.lconst 0, 1) := by decide +kernel
theorem dX5_compare_62 : decode cX5_compare 62 = .ok (.goto 11, 3) := by decide +kernel
theorem dX5_compare_65 : decode cX5_compare 65 = .ok (.aload_n 0, 1) := by decide +kernel
theorem dX5_compare_66 : decode cX5_compare 66 = .ok (.iload_n 1, 1) := by decide +kernel
theorem dX5_compare_67 : decode cX5_compare 67 = .ok (.iload_n 2, 1) := by decide +kernel
theorem dX5_compare_68 : decode cX5_compare 68 = .ok (.iconst 0, 1) := by decide +kernel
theorem dX5_compare_69 : decode cX5_compare 69 = .ok (.invokevirtual 120, 3) := by decide +kernel
theorem dX5_compare_72 : decode cX5_compare 72 = .ok (.i2l, 1) := by decide +kernel
theorem dX5_compare_73 : decode cX5_compare 73 = .ok (.lstore 8, 2) := by decide +kernel
theorem dX5_compare_75 : decode cX5_compare 75 = .ok (.iload_n 3, 1) := by decide +kernel
theorem dX5_compare_76 : decode cX5_compare 76 = .ok (.ifCond .eq 7, 3) := by decide +kernel
theorem dX5_compare_79 : decode cX5_compare 79 = .ok (.lconst 0, 1) := by decide +kernel
theorem dX5_compare_80 : decode cX5_compare 80 = .ok (.goto 11, 3) := by decide +kernel
theorem dX5_compare_83 : decode cX5_compare 83 = .ok (.aload_n 0, 1) := by decide +kernel
theorem dX5_compare_84 : decode cX5_compare 84 = .ok (.iload_n 1, 1) := by decide +kernel
theorem dX5_compare_85 : decode cX5_compare 85 = .ok (.iload_n 2, 1) := by decide +kernel
theorem dX5_compare_86 : decode cX5_compare 86 = .ok (.iconst 1, 1) := by decide +kernel
theorem dX5_compare_87 : decode cX5_compare 87 = .ok (.invokevirtual 120, 3) := by decide +kernel
theorem dX5_compare_90 : decode cX5_compare 90 = .ok (.i2l, 1) := by decide +kernel
theorem dX5_compare_91 : decode cX5_compare 91 = .ok (.lstore 10, 2) := by decide +kernel
theorem dX5_compare_93 : decode cX5_compare 93 = .ok (.aload_n 0, 1) := by decide +kernel
theorem dX5_compare_94 : decode cX5_compare 94 = .ok (.iload_n 3, 1) := by decide +kernel
theorem dX5_compare_95 : decode cX5_compare 95 = .ok (.lload 6, 2) := by decide +kernel
theorem dX5_compare_97 : decode cX5_compare 97 = .ok (.lconst 0, 1) := by decide +kernel
theorem dX5_compare_98 : decode cX5_compare 98 = .ok (.lcmp, 1) := by decide +kernel
theorem dX5_compare_99 : decode cX5_compare 99 = .ok (.ifCond .eq 10, 3) := by decide +kernel
theorem dX5_compare_102 : decode cX5_compare 102 = .ok (.lload 10, 2) := by decide +kernel
theorem dX5_compare_104 : decode cX5_compare 104 = .ok (.lconst 0, 1) := by decide +kernel
theorem dX5_compare_105 : decode cX5_compare 105 = .ok (.lcmp, 1) := by decide +kernel
theorem dX5_compare_106 : decode cX5_compare 106 = .ok (.ifCond .ne 7, 3) := by decide +kernel
theorem dX5_compare_109 : decode cX5_compare 109 = .ok (.iconst 1, 1) := by decide +kernel
theorem dX5_compare_110 : decode cX5_compare 110 = .ok (.goto 4, 3) := by decide +kernel
theorem dX5_compare_113 : decode cX5_compare 113 = .ok (.iconst 0, 1) := by decide +kernel
theorem dX5_compare_114 : decode cX5_compare 114 = .ok (.iconst 0, 1) := by decide +kernel
theorem dX5_compare_115 : decode cX5_compare 115 = .ok (.invokevirtual 90, 3) := by decide +kernel
theorem dX5_compare_118 : decode cX5_compare 118 = .ok (.ifCond .eq 5, 3) := by decide +kernel
theorem dX5_compare_121 : decode cX5_compare 121 = .ok (.iconst 0, 1) := by decide +kernel
theorem dX5_compare_122 : decode cX5_compare 122 = .ok (.ireturn, 1) := by decide +kernel
theorem dX5_compare_123 : decode cX5_compare 123 = .ok (.lload 4, 2) := by decide +kernel
theorem dX5_compare_125 : decode cX5_compare 125 = .ok (.lload 10, 2) := by decide +kernel
theorem dX5_compare_127 : decode cX5_compare 127 = .ok (.lmul, 1) := by decide +kernel
theorem dX5_compare_128 : decode cX5_compare 128 = .ok (.lload 8, 2) := by decide +kernel
theorem dX5_compare_130 : decode cX5_compare 130 = .ok (.lload 6, 2) := by decide +kernel
theorem dX5_compare_132 : decode cX5_compare 132 = .ok (.lmul, 1) := by decide +kernel
theorem dX5_compare_133 : decode cX5_compare 133 = .ok (.lcmp, 1) := by decide +kernel
theorem dX5_compare_134 : decode cX5_compare 134 = .ok (.ifCond .le 7, 3) := by decide +kernel
theorem dX5_compare_137 : decode cX5_compare 137 = .ok (.iconst 1, 1) := by decide +kernel
theorem dX5_compare_138 : decode cX5_compare 138 = .ok (.goto 22, 3) := by decide +kernel
theorem dX5_compare_141 : decode cX5_compare 141 = .ok (.lload 4, 2) := by decide +kernel
theorem dX5_compare_143 : decode cX5_compare 143 = .ok (.lload 10, 2) := by decide +kernel
theorem dX5_compare_145 : decode cX5_compare 145 = .ok (.lmul, 1) := by decide +kernel
theorem dX5_compare_146 : decode cX5_compare 146 = .ok (.lload 8, 2) := by decide +kernel
theorem dX5_compare_148 : decode cX5_compare 148 = .ok (.lload 6, 2) := by decide +kernel
theorem dX5_compare_150 : decode cX5_compare 150 = .ok (.lmul, 1) := by decide +kernel
theorem dX5_compare_151 : decode cX5_compare 151 = .ok (.lcmp, 1) := by decide +kernel
theorem dX5_compare_152 : decode cX5_compare 152 = .ok (.ifCond .ge 7, 3) := by decide +kernel
theorem dX5_compare_155 : decode cX5_compare 155 = .ok (.iconst (-1), 1) := by decide +kernel
theorem dX5_compare_156 : decode cX5_compare 156 = .ok (.goto 4, 3) := by decide +kernel
theorem dX5_compare_159 : decode cX5_compare 159 = .ok (.iconst 0, 1) := by decide +kernel
theorem dX5_compare_160 : decode cX5_compare 160 = .ok (.ireturn, 1) := by decide +kernel
theorem dX5_gain_0 : decode cX5_gain 0 = .ok (.iconst 0, 1) := by decide +kernel
theorem dX5_gain_1 : decode cX5_gain 1 = .ok (.istore_n 3, 1) := by decide +kernel
theorem dX5_gain_2 : decode cX5_gain 2 = .ok (.iconst 0, 1) := by decide +kernel
theorem dX5_gain_3 : decode cX5_gain 3 = .ok (.istore 4, 2) := by decide +kernel
theorem dX5_gain_5 : decode cX5_gain 5 = .ok (.iload 4, 2) := by decide +kernel
theorem dX5_gain_7 : decode cX5_gain 7 = .ok (.bipush 6, 2) := by decide +kernel
theorem dX5_gain_9 : decode cX5_gain 9 = .ok (.if_icmp .ge 63, 3) := by decide +kernel
theorem dX5_gain_12 : decode cX5_gain 12 = .ok (.iload_n 1, 1) := by decide +kernel
theorem dX5_gain_13 : decode cX5_gain 13 = .ok (.iload 4, 2) := by decide +kernel
theorem dX5_gain_15 : decode cX5_gain 15 = .ok (.ishr, 1) := by decide +kernel
theorem dX5_gain_16 : decode cX5_gain 16 = .ok (.iconst 1, 1) := by decide +kernel
theorem dX5_gain_17 : decode cX5_gain 17 = .ok (.iand, 1) := by decide +kernel
theorem dX5_gain_18 : decode cX5_gain 18 = .ok (.iconst 1, 1) := by decide +kernel
theorem dX5_gain_19 : decode cX5_gain 19 = .ok (.if_icmp .ne 47, 3) := by decide +kernel
theorem dX5_gain_22 : decode cX5_gain 22 = .ok (.iload_n 3, 1) := by decide +kernel
theorem dX5_gain_23 : decode cX5_gain 23 = .ok (.aload_n 0, 1) := by decide +kernel
theorem dX5_gain_24 : decode cX5_gain 24 = .ok (.getfield 60, 3) := by decide +kernel
theorem dX5_gain_27 : decode cX5_gain 27 = .ok (.iload_n 2, 1) := by decide +kernel
theorem dX5_gain_28 : decode cX5_gain 28 = .ok (.iaload, 1) := by decide +kernel
theorem dX5_gain_29 : decode cX5_gain 29 = .ok (.aload_n 0, 1) := by decide +kernel
theorem dX5_gain_30 : decode cX5_gain 30 = .ok (.getfield 60, 3) := by decide +kernel
theorem dX5_gain_33 : decode cX5_gain 33 = .ok (.iload 4, 2) := by decide +kernel
theorem dX5_gain_35 : decode cX5_gain 35 = .ok (.iaload, 1) := by decide +kernel
theorem dX5_gain_36 : decode cX5_gain 36 = .ok (.if_icmp .le 7, 3) := by decide +kernel
theorem dX5_gain_39 : decode cX5_gain 39 = .ok (.iconst 1, 1) := by decide +kernel
theorem dX5_gain_40 : decode cX5_gain 40 = .ok (.goto 24, 3) := by decide +kernel
theorem dX5_gain_43 : decode cX5_gain 43 = .ok (.aload_n 0, 1) := by decide +kernel
theorem dX5_gain_44 : decode cX5_gain 44 = .ok (.getfield 60, 3) := by decide +kernel
theorem dX5_gain_47 : decode cX5_gain 47 = .ok (.iload_n 2, 1) := by decide +kernel
theorem dX5_gain_48 : decode cX5_gain 48 = .ok (.iaload, 1) := by decide +kernel
theorem dX5_gain_49 : decode cX5_gain 49 = .ok (.aload_n 0, 1) := by decide +kernel
theorem dX5_gain_50 : decode cX5_gain 50 = .ok (.getfield 60, 3) := by decide +kernel
theorem dX5_gain_53 : decode cX5_gain 53 = .ok (.iload 4, 2) := by decide +kernel
theorem dX5_gain_55 : decode cX5_gain 55 = .ok (.iaload, 1) := by decide +kernel
theorem dX5_gain_56 : decode cX5_gain 56 = .ok (.if_icmp .ge 7, 3) := by decide +kernel
theorem dX5_gain_59 : decode cX5_gain 59 = .ok (.iconst (-1), 1) := by decide +kernel
theorem dX5_gain_60 : decode cX5_gain 60 = .ok (.goto 4, 3) := by decide +kernel
theorem dX5_gain_63 : decode cX5_gain 63 = .ok (.iconst 0, 1) := by decide +kernel
theorem dX5_gain_64 : decode cX5_gain 64 = .ok (.iadd, 1) := by decide +kernel
theorem dX5_gain_65 : decode cX5_gain 65 = .ok (.istore_n 3, 1) := by decide +kernel
theorem dX5_gain_66 : decode cX5_gain 66 = .ok (.iinc 4 1, 3) := by decide +kernel
theorem dX5_gain_69 : decode cX5_gain 69 = .ok (.goto (-64), 3) := by decide +kernel
theorem dX5_gain_72 : decode cX5_gain 72 = .ok (.iload_n 3, 1) := by decide +kernel
theorem dX5_gain_73 : decode cX5_gain 73 = .ok (.ireturn, 1) := by decide +kernel
theorem dX5_ordersFrom_0 : decode cX5_ordersFrom 0 = .ok (.iconst 0, 1) := by decide +kernel
theorem dX5_ordersFrom_1 : decode cX5_ordersFrom 1 = .ok (.istore_n 3, 1) := by decide +kernel
theorem dX5_ordersFrom_2 : decode cX5_ordersFrom 2 = .ok (.iload_n 3, 1) := by decide +kernel
theorem dX5_ordersFrom_3 : decode cX5_ordersFrom 3 = .ok (.sipush 1984, 3) := by decide +kernel
theorem dX5_ordersFrom_6 : decode cX5_ordersFrom 6 = .ok (.if_icmp .ge 16, 3) := by decide +kernel
theorem dX5_ordersFrom_9 : decode cX5_ordersFrom 9 = .ok (.aload_n 0, 1) := by decide +kernel
theorem dX5_ordersFrom_10 : decode cX5_ordersFrom 10 = .ok (.getfield 63, 3) := by decide +kernel
theorem dX5_ordersFrom_13 : decode cX5_ordersFrom 13 = .ok (.iload_n 3, 1) := by decide +kernel
theorem dX5_ordersFrom_14 : decode cX5_ordersFrom 14 = .ok (.iconst 0, 1) := by decide +kernel
theorem dX5_ordersFrom_15 : decode cX5_ordersFrom 15 = .ok (.iastore, 1) := by decide +kernel
theorem dX5_ordersFrom_16 : decode cX5_ordersFrom 16 = .ok (.iinc 3 1, 3) := by decide +kernel
theorem dX5_ordersFrom_19 : decode cX5_ordersFrom 19 = .ok (.goto (-17), 3) := by decide +kernel
theorem dX5_ordersFrom_22 : decode cX5_ordersFrom 22 = .ok (.aload_n 0, 1) := by decide +kernel
theorem dX5_ordersFrom_23 : decode cX5_ordersFrom 23 = .ok (.getfield 63, 3) := by decide +kernel
theorem dX5_ordersFrom_26 : decode cX5_ordersFrom 26 = .ok (.bipush 15, 2) := by decide +kernel
theorem dX5_ordersFrom_28 : decode cX5_ordersFrom 28 = .ok (.iconst 1, 1) := by decide +kernel
theorem dX5_ordersFrom_29 : decode cX5_ordersFrom 29 = .ok (.iastore, 1) := by decide +kernel
theorem dX5_ordersFrom_30 : decode cX5_ordersFrom 30 = .ok (.iconst 0, 1) := by decide +kernel
theorem dX5_ordersFrom_31 : decode cX5_ordersFrom 31 = .ok (.istore_n 3, 1) := by decide +kernel
theorem dX5_ordersFrom_32 : decode cX5_ordersFrom 32 = .ok (.iload_n 3, 1) := by decide +kernel
theorem dX5_ordersFrom_33 : decode cX5_ordersFrom 33 = .ok (.iconst 1, 1) := by decide +kernel
theorem dX5_ordersFrom_34 : decode cX5_ordersFrom 34 = .ok (.iload_n 2, 1) := by decide +kernel
theorem dX5_ordersFrom_35 : decode cX5_ordersFrom 35 = .ok (.ishl, 1) := by decide +kernel
theorem dX5_ordersFrom_36 : decode cX5_ordersFrom 36 = .ok (.if_icmp .ge 102, 3) := by decide +kernel
theorem dX5_ordersFrom_39 : decode cX5_ordersFrom 39 = .ok (.iconst 0, 1) := by decide +kernel
theorem dX5_ordersFrom_40 : decode cX5_ordersFrom 40 = .ok (.istore 4, 2) := by decide +kernel
theorem dX5_ordersFrom_42 : decode cX5_ordersFrom 42 = .ok (.iload 4, 2) := by decide +kernel
theorem dX5_ordersFrom_44 : decode cX5_ordersFrom 44 = .ok (.iload_n 2, 1) := by decide +kernel
theorem dX5_ordersFrom_45 : decode cX5_ordersFrom 45 = .ok (.if_icmp .ge 87, 3) := by decide +kernel
theorem dX5_ordersFrom_48 : decode cX5_ordersFrom 48 = .ok (.aload_n 0, 1) := by decide +kernel
theorem dX5_ordersFrom_49 : decode cX5_ordersFrom 49 = .ok (.iload_n 3, 1) := by decide +kernel
theorem dX5_ordersFrom_50 : decode cX5_ordersFrom 50 = .ok (.iload 4, 2) := by decide +kernel
theorem dX5_ordersFrom_52 : decode cX5_ordersFrom 52 = .ok (.invokevirtual 131, 3) := by decide +kernel
theorem dX5_ordersFrom_55 : decode cX5_ordersFrom 55 = .ok (.istore 5, 2) := by decide +kernel
theorem dX5_ordersFrom_57 : decode cX5_ordersFrom 57 = .ok (.iconst 0, 1) := by decide +kernel
theorem dX5_ordersFrom_58 : decode cX5_ordersFrom 58 = .ok (.istore 6, 2) := by decide +kernel
theorem dX5_ordersFrom_60 : decode cX5_ordersFrom 60 = .ok (.iload 6, 2) := by decide +kernel
theorem dX5_ordersFrom_62 : decode cX5_ordersFrom 62 = .ok (.bipush 31, 2) := by decide +kernel
theorem dX5_ordersFrom_64 : decode cX5_ordersFrom 64 = .ok (.if_icmp .ge 62, 3) := by decide +kernel
theorem dX5_ordersFrom_67 : decode cX5_ordersFrom 67 = .ok (.iload_n 3, 1) := by decide +kernel
theorem dX5_ordersFrom_68 : decode cX5_ordersFrom 68 = .ok (.iload 4, 2) := by decide +kernel
theorem dX5_ordersFrom_70 : decode cX5_ordersFrom 70 = .ok (.ishr, 1) := by decide +kernel
theorem dX5_ordersFrom_71 : decode cX5_ordersFrom 71 = .ok (.iconst 1, 1) := by decide +kernel
theorem dX5_ordersFrom_72 : decode cX5_ordersFrom 72 = .ok (.iand, 1) := by decide +kernel
theorem dX5_ordersFrom_73 : decode cX5_ordersFrom 73 = .ok (.ifCond .ne 53, 3) := by decide +kernel
theorem dX5_ordersFrom_76 : decode cX5_ordersFrom 76 = .ok (.aload_n 0, 1) := by decide +kernel
theorem dX5_ordersFrom_77 : decode cX5_ordersFrom 77 = .ok (.getfield 63, 3) := by decide +kernel
theorem dX5_ordersFrom_80 : decode cX5_ordersFrom 80 = .ok (.bipush 31, 2) := by decide +kernel
theorem dX5_ordersFrom_82 : decode cX5_ordersFrom 82 = .ok (.iload_n 3, 1) := by decide +kernel
theorem dX5_ordersFrom_83 : decode cX5_ordersFrom 83 = .ok (.imul, 1) := by decide +kernel
theorem dX5_ordersFrom_84 : decode cX5_ordersFrom 84 = .ok (.iload 6, 2) := by decide +kernel
theorem dX5_ordersFrom_86 : decode cX5_ordersFrom 86 = .ok (.iadd, 1) := by decide +kernel
theorem dX5_ordersFrom_87 : decode cX5_ordersFrom 87 = .ok (.iaload, 1) := by decide +kernel
theorem dX5_ordersFrom_88 : decode cX5_ordersFrom 88 = .ok (.istore 7, 2) := by decide +kernel
theorem dX5_ordersFrom_90 : decode cX5_ordersFrom 90 = .ok (.iload 7, 2) := by decide +kernel
theorem dX5_ordersFrom_92 : decode cX5_ordersFrom 92 = .ok (.ifCond .le 28, 3) := by decide +kernel
theorem dX5_ordersFrom_95 : decode cX5_ordersFrom 95 = .ok (.aload_n 0, 1) := by decide +kernel
theorem dX5_ordersFrom_96 : decode cX5_ordersFrom 96 = .ok (.getfield 63, 3) := by decide +kernel
theorem dX5_ordersFrom_99 : decode cX5_ordersFrom 99 = .ok (.bipush 31, 2) := by decide +kernel
theorem dX5_ordersFrom_101 : decode cX5_ordersFrom 101 = .ok (.iload_n 3, 1) := by decide +kernel
theorem dX5_ordersFrom_102 : decode cX5_ordersFrom 102 = .ok (.iconst 1, 1) := by decide +kernel
theorem dX5_ordersFrom_103 : decode cX5_ordersFrom 103 = .ok (.iload 4, 2) := by decide +kernel
theorem dX5_ordersFrom_105 : decode cX5_ordersFrom 105 = .ok (.ishl, 1) := by decide +kernel
theorem dX5_ordersFrom_106 : decode cX5_ordersFrom 106 = .ok (.ior, 1) := by decide +kernel
theorem dX5_ordersFrom_107 : decode cX5_ordersFrom 107 = .ok (.imul, 1) := by decide +kernel
theorem dX5_ordersFrom_108 : decode cX5_ordersFrom 108 = .ok (.iload 6, 2) := by decide +kernel
theorem dX5_ordersFrom_110 : decode cX5_ordersFrom 110 = .ok (.iadd, 1) := by decide +kernel
theorem dX5_ordersFrom_111 : decode cX5_ordersFrom 111 = .ok (.iload 5, 2) := by decide +kernel
theorem dX5_ordersFrom_113 : decode cX5_ordersFrom 113 = .ok (.iadd, 1) := by decide +kernel
theorem dX5_ordersFrom_114 : decode cX5_ordersFrom 114 = .ok (.dup2, 1) := by decide +kernel
theorem dX5_ordersFrom_115 : decode cX5_ordersFrom 115 = .ok (.iaload, 1) := by decide +kernel
theorem dX5_ordersFrom_116 : decode cX5_ordersFrom 116 = .ok (.iload 7, 2) := by decide +kernel
theorem dX5_ordersFrom_118 : decode cX5_ordersFrom 118 = .ok (.iadd, 1) := by decide +kernel
theorem dX5_ordersFrom_119 : decode cX5_ordersFrom 119 = .ok (.iastore, 1) := by decide +kernel
theorem dX5_ordersFrom_120 : decode cX5_ordersFrom 120 = .ok (.iinc 6 1, 3) := by decide +kernel
theorem dX5_ordersFrom_123 : decode cX5_ordersFrom 123 = .ok (.goto (-63), 3) := by decide +kernel
theorem dX5_ordersFrom_126 : decode cX5_ordersFrom 126 = .ok (.iinc 4 1, 3) := by decide +kernel
theorem dX5_ordersFrom_129 : decode cX5_ordersFrom 129 = .ok (.goto (-87), 3) := by decide +kernel
theorem dX5_ordersFrom_132 : decode cX5_ordersFrom 132 = .ok (.iinc 3 1, 3) := by decide +kernel
theorem dX5_ordersFrom_135 : decode cX5_ordersFrom 135 = .ok (.goto (-103), 3) := by decide +kernel
theorem dX5_ordersFrom_138 : decode cX5_ordersFrom 138 = .ok (.iconst 0, 1) := by decide +kernel
theorem dX5_ordersFrom_139 : decode cX5_ordersFrom 139 = .ok (.istore_n 3, 1) := by decide +kernel
theorem dX5_ordersFrom_140 : decode cX5_ordersFrom 140 = .ok (.iload_n 1, 1) := by decide +kernel
theorem dX5_ordersFrom_141 : decode cX5_ordersFrom 141 = .ok (.bipush 15, 2) := by decide +kernel
theorem dX5_ordersFrom_143 : decode cX5_ordersFrom 143 = .ok (.iadd, 1) := by decide +kernel
theorem dX5_ordersFrom_144 : decode cX5_ordersFrom 144 = .ok (.istore 4, 2) := by decide +kernel
theorem dX5_ordersFrom_146 : decode cX5_ordersFrom 146 = .ok (.iload 4, 2) := by decide +kernel
theorem dX5_ordersFrom_148 : decode cX5_ordersFrom 148 = .ok (.bipush 31, 2) := by decide +kernel
theorem dX5_ordersFrom_150 : decode cX5_ordersFrom 150 = .ok (.if_icmp .ge 28, 3) := by decide +kernel
theorem dX5_ordersFrom_153 : decode cX5_ordersFrom 153 = .ok (.iload_n 3, 1) := by decide +kernel
theorem dX5_ordersFrom_154 : decode cX5_ordersFrom 154 = .ok (.aload_n 0, 1) := by decide +kernel
theorem dX5_ordersFrom_155 : decode cX5_ordersFrom 155 = .ok (.getfield 63, 3) := by decide +kernel
theorem dX5_ordersFrom_158 : decode cX5_ordersFrom 158 = .ok (.bipush 31, 2) := by decide +kernel
theorem dX5_ordersFrom_160 : decode cX5_ordersFrom 160 = .ok (.iconst 1, 1) := by decide +kernel
theorem dX5_ordersFrom_161 : decode cX5_ordersFrom 161 = .ok (.iload_n 2, 1) := by decide +kernel
theorem dX5_ordersFrom_162 : decode cX5_ordersFrom 162 = .ok (.ishl, 1) := by decide +kernel
theorem dX5_ordersFrom_163 : decode cX5_ordersFrom 163 = .ok (.iconst 1, 1) := by decide +kernel
theorem dX5_ordersFrom_164 : decode cX5_ordersFrom 164 = .ok (.isub, 1) := by decide +kernel
theorem dX5_ordersFrom_165 : decode cX5_ordersFrom 165 = .ok (.imul, 1) := by decide +kernel
theorem dX5_ordersFrom_166 : decode cX5_ordersFrom 166 = .ok (.iload 4, 2) := by decide +kernel
theorem dX5_ordersFrom_168 : decode cX5_ordersFrom 168 = .ok (.iadd, 1) := by decide +kernel
theorem dX5_ordersFrom_169 : decode cX5_ordersFrom 169 = .ok (.iaload, 1) := by decide +kernel
theorem dX5_ordersFrom_170 : decode cX5_ordersFrom 170 = .ok (.iadd, 1) := by decide +kernel
theorem dX5_ordersFrom_171 : decode cX5_ordersFrom 171 = .ok (.istore_n 3, 1) := by decide +kernel
theorem dX5_ordersFrom_172 : decode cX5_ordersFrom 172 = .ok (.iinc 4 1, 3) := by decide +kernel
theorem dX5_ordersFrom_175 : decode cX5_ordersFrom 175 = .ok (.goto (-29), 3) := by decide +kernel
theorem dX5_ordersFrom_178 : decode cX5_ordersFrom 178 = .ok (.iload_n 3, 1) := by decide +kernel
theorem dX5_ordersFrom_179 : decode cX5_ordersFrom 179 = .ok (.ireturn, 1) := by decide +kernel
theorem dX5_trend_0 : decode cX5_trend 0 = .ok (.iload_n 3, 1) := by decide +kernel
theorem dX5_trend_1 : decode cX5_trend 1 = .ok (.iconst 2, 1) := by decide +kernel
theorem dX5_trend_2 : decode cX5_trend 2 = .ok (.bipush 6, 2) := by decide +kernel
theorem dX5_trend_4 : decode cX5_trend 4 = .ok (.invokestatic 79, 3) := by decide +kernel
theorem dX5_trend_7 : decode cX5_trend 7 = .ok (.ifCond .eq 40, 3) := by decide +kernel
theorem dX5_trend_10 : decode cX5_trend 10 = .ok (.iload_n 2, 1) := by decide +kernel
theorem dX5_trend_11 : decode cX5_trend 11 = .ok (.iconst 1, 1) := by decide +kernel
theorem dX5_trend_12 : decode cX5_trend 12 = .ok (.sipush 1000, 3) := by decide +kernel
theorem dX5_trend_15 : decode cX5_trend 15 = .ok (.invokestatic 79, 3) := by decide +kernel
theorem dX5_trend_18 : decode cX5_trend 18 = .ok (.ifCond .eq 29, 3) := by decide +kernel
theorem dX5_trend_21 : decode cX5_trend 21 = .ok (.iload_n 1, 1) := by decide +kernel
theorem dX5_trend_22 : decode cX5_trend 22 = .ok (.ifCond .lt 25, 3) := by decide +kernel
theorem dX5_trend_25 : decode cX5_trend 25 = .ok (.iload_n 1, 1) := by decide +kernel
theorem dX5_trend_26 : decode cX5_trend 26 = .ok (.iconst 0, 1) := by decide +kernel
theorem dX5_trend_27 : decode cX5_trend 27 = .ok (.sipush 9999, 3) := by decide +kernel
theorem dX5_trend_30 : decode cX5_trend 30 = .ok (.invokestatic 79, 3) := by decide +kernel
theorem dX5_trend_33 : decode cX5_trend 33 = .ok (.ifCond .eq 14, 3) := by decide +kernel
theorem dX5_trend_36 : decode cX5_trend 36 = .ok (.iload_n 1, 1) := by decide +kernel
theorem dX5_trend_37 : decode cX5_trend 37 = .ok (.iload_n 2, 1) := by decide +kernel
theorem dX5_trend_38 : decode cX5_trend 38 = .ok (.iload_n 3, 1) := by decide +kernel
theorem dX5_trend_39 : decode cX5_trend 39 = .ok (.imul, 1) := by decide +kernel
theorem dX5_trend_40 : decode cX5_trend 40 = .ok (.iadd, 1) := by decide +kernel
theorem dX5_trend_41 : decode cX5_trend 41 = .ok (.sipush 10000, 3) := by decide +kernel
theorem dX5_trend_44 : decode cX5_trend 44 = .ok (.if_icmp .le 7, 3) := by decide +kernel
theorem dX5_trend_47 : decode cX5_trend 47 = .ok (.iconst 1, 1) := by decide +kernel
theorem dX5_trend_48 : decode cX5_trend 48 = .ok (.goto 4, 3) := by decide +kernel
theorem dX5_trend_51 : decode cX5_trend 51 = .ok (.iconst 0, 1) := by decide +kernel
theorem dX5_trend_52 : decode cX5_trend 52 = .ok (.istore 5, 2) := by decide +kernel
theorem dX5_trend_54 : decode cX5_trend 54 = .ok (.aload_n 0, 1) := by decide +kernel
theorem dX5_trend_55 : decode cX5_trend 55 = .ok (.iload 4, 2) := by decide +kernel
theorem dX5_trend_57 : decode cX5_trend 57 = .ok (.iconst 0, 1) := by decide +kernel
theorem dX5_trend_58 : decode cX5_trend 58 = .ok (.iconst 2, 1) := by decide +kernel
theorem dX5_trend_59 : decode cX5_trend 59 = .ok (.invokestatic 79, 3) := by decide +kernel
theorem dX5_trend_62 : decode cX5_trend 62 = .ok (.ifCond .ne 7, 3) := by decide +kernel
theorem dX5_trend_65 : decode cX5_trend 65 = .ok (.iconst 1, 1) := by decide +kernel
theorem dX5_trend_66 : decode cX5_trend 66 = .ok (.goto 4, 3) := by decide +kernel
theorem dX5_trend_69 : decode cX5_trend 69 = .ok (.iconst 0, 1) := by decide +kernel
theorem dX5_trend_70 : decode cX5_trend 70 = .ok (.iload 5, 2) := by decide +kernel
theorem dX5_trend_72 : decode cX5_trend 72 = .ok (.iconst 0, 1) := by decide +kernel
theorem dX5_trend_73 : decode cX5_trend 73 = .ok (.invokevirtual 90, 3) := by decide +kernel
theorem dX5_trend_76 : decode cX5_trend 76 = .ok (.ifCond .eq 5, 3) := by decide +kernel
theorem dX5_trend_79 : decode cX5_trend 79 = .ok (.iconst 0, 1) := by decide +kernel
theorem dX5_trend_80 : decode cX5_trend 80 = .ok (.ireturn, 1) := by decide +kernel
theorem dX5_trend_81 : decode cX5_trend 81 = .ok (.iconst 1, 1) := by decide +kernel
theorem dX5_trend_82 : decode cX5_trend 82 = .ok (.istore 6, 2) := by decide +kernel
theorem dX5_trend_84 : decode cX5_trend 84 = .ok (.iconst 0, 1) := by decide +kernel
theorem dX5_trend_85 : decode cX5_trend 85 = .ok (.istore 7, 2) := by decide +kernel
theorem dX5_trend_87 : decode cX5_trend 87 = .ok (.iload 7, 2) := by decide +kernel
theorem dX5_trend_89 : decode cX5_trend 89 = .ok (.iload_n 3, 1) := by decide +kernel
theorem dX5_trend_90 : decode cX5_trend 90 = .ok (.if_icmp .ge 92, 3) := by decide +kernel
theorem dX5_trend_93 : decode cX5_trend 93 = .ok (.aload_n 0, 1) := by decide +kernel
theorem dX5_trend_94 : decode cX5_trend 94 = .ok (.getfield 60, 3) := by decide +kernel
theorem dX5_trend_97 : decode cX5_trend 97 = .ok (.iload 7, 2) := by decide +kernel
theorem dX5_trend_99 : decode cX5_trend 99 = .ok (.iconst 0, 1) := by decide +kernel
theorem dX5_trend_100 : decode cX5_trend 100 = .ok (.iastore, 1) := by decide +kernel
theorem dX5_trend_101 : decode cX5_trend 101 = .ok (.iload 6, 2) := by decide +kernel
theorem dX5_trend_103 : decode cX5_trend 103 = .ok (.iload 7, 2) := by decide +kernel
theorem dX5_trend_105 : decode cX5_trend 105 = .ok (.iconst 1, 1) := by decide +kernel
theorem dX5_trend_106 : decode cX5_trend 106 = .ok (.iadd, 1) := by decide +kernel
theorem dX5_trend_107 : decode cX5_trend 107 = .ok (.imul, 1) := by decide +kernel
theorem dX5_trend_108 : decode cX5_trend 108 = .ok (.istore 6, 2) := by decide +kernel
theorem dX5_trend_110 : decode cX5_trend 110 = .ok (.iload_n 1, 1) := by decide +kernel
theorem dX5_trend_111 : decode cX5_trend 111 = .ok (.iload_n 2, 1) := by decide +kernel
theorem dX5_trend_112 : decode cX5_trend 112 = .ok (.iload 7, 2) := by decide +kernel
theorem dX5_trend_114 : decode cX5_trend 114 = .ok (.imul, 1) := by decide +kernel
theorem dX5_trend_115 : decode cX5_trend 115 = .ok (.iadd, 1) := by decide +kernel
theorem dX5_trend_116 : decode cX5_trend 116 = .ok (.istore 8, 2) := by decide +kernel
theorem dX5_trend_118 : decode cX5_trend 118 = .ok (.iconst 0, 1) := by decide +kernel
theorem dX5_trend_119 : decode cX5_trend 119 = .ok (.istore 9, 2) := by decide +kernel
theorem dX5_trend_121 : decode cX5_trend 121 = .ok (.iload 9, 2) := by decide +kernel
theorem dX5_trend_123 : decode cX5_trend 123 = .ok (.aload_n 0, 1) := by decide +kernel
theorem dX5_trend_124 : decode cX5_trend 124 = .ok (.getfield 87, 3) := by decide +kernel
theorem dX5_trend_127 : decode cX5_trend 127 = .ok (.if_icmp .ge 49, 3) := by decide +kernel
theorem dX5_trend_130 : decode cX5_trend 130 = .ok (.aload_n 0, 1) := by decide +kernel
theorem dX5_trend_131 : decode cX5_trend 131 = .ok (.getfield 60, 3) := by decide +kernel
theorem dX5_trend_134 : decode cX5_trend 134 = .ok (.iload 7, 2) := by decide +kernel
theorem dX5_trend_136 : decode cX5_trend 136 = .ok (.dup2, 1) := by decide +kernel
theorem dX5_trend_137 : decode cX5_trend 137 = .ok (.iaload, 1) := by decide +kernel
theorem dX5_trend_138 : decode cX5_trend 138 = .ok (.aload_n 0, 1) := by decide +kernel
theorem dX5_trend_139 : decode cX5_trend 139 = .ok (.iload 9, 2) := by decide +kernel
theorem dX5_trend_141 : decode cX5_trend 141 = .ok (.iload 8, 2) := by decide +kernel
theorem dX5_trend_143 : decode cX5_trend 143 = .ok (.iload 8, 2) := by decide +kernel
theorem dX5_trend_145 : decode cX5_trend 145 = .ok (.iload_n 2, 1) := by decide +kernel
theorem dX5_trend_146 : decode cX5_trend 146 = .ok (.iadd, 1) := by decide +kernel
theorem dX5_trend_147 : decode cX5_trend 147 = .ok (.iconst 1, 1) := by decide +kernel
theorem dX5_trend_148 : decode cX5_trend 148 = .ok (.isub, 1) := by decide +kernel
theorem dX5_trend_149 : decode cX5_trend 149 = .ok (.aload_n 0, 1) := by decide +kernel
theorem dX5_trend_150 : decode cX5_trend 150 = .ok (.getfield 48, 3) := by decide +kernel
theorem dX5_trend_153 : decode cX5_trend 153 = .ok (.aload_n 0, 1) := by decide +kernel
theorem dX5_trend_154 : decode cX5_trend 154 = .ok (.getfield 51, 3) := by decide +kernel
theorem dX5_trend_157 : decode cX5_trend 157 = .ok (.invokevirtual 100, 3) := by decide +kernel
theorem dX5_trend_160 : decode cX5_trend 160 = .ok (.ifCond .eq 7, 3) := by decide +kernel
theorem dX5_trend_163 : decode cX5_trend 163 = .ok (.iconst 1, 1) := by decide +kernel
theorem dX5_trend_164 : decode cX5_trend 164 = .ok (.goto 4, 3) := by decide +kernel
theorem dX5_trend_167 : decode cX5_trend 167 = .ok (.iconst 0, 1) := by decide +kernel
theorem dX5_trend_168 : decode cX5_trend 168 = .ok (.iadd, 1) := by decide +kernel
theorem dX5_trend_169 : decode cX5_trend 169 = .ok (.iastore, 1) := by decide +kernel
theorem dX5_trend_170 : decode cX5_trend 170 = .ok (.iinc 9 1, 3) := by decide +kernel
theorem dX5_trend_173 : decode cX5_trend 173 = .ok (.goto (-52), 3) := by decide +kernel
theorem dX5_trend_176 : decode cX5_trend 176 = .ok (.iinc 7 1, 3) := by decide +kernel
theorem dX5_trend_179 : decode cX5_trend 179 = .ok (.goto (-92), 3) := by decide +kernel
theorem dX5_trend_182 : decode cX5_trend 182 = .ok (.iconst 0, 1) := by decide +kernel
theorem dX5_trend_183 : decode cX5_trend 183 = .ok (.istore 7, 2) := by decide +kernel
theorem dX5_trend_185 : decode cX5_trend 185 = .ok (.iconst 0, 1) := by decide +kernel
theorem dX5_trend_186 : decode cX5_trend 186 = .ok (.istore 8, 2) := by decide +kernel
theorem dX5_trend_188 : decode cX5_trend 188 = .ok (.iload 8, 2) := by decide +kernel
theorem dX5_trend_190 : decode cX5_trend 190 = .ok (.iload_n 3, 1) := by decide +kernel
theorem dX5_trend_191 : decode cX5_trend 191 = .ok (.if_icmp .ge 26, 3) := by decide +kernel
theorem dX5_trend_194 : decode cX5_trend 194 = .ok (.iload 7, 2) := by decide +kernel
theorem dX5_trend_196 : decode cX5_trend 196 = .ok (.aload_n 0, 1) := by decide +kernel
theorem dX5_trend_197 : decode cX5_trend 197 = .ok (.iconst 1, 1) := by decide +kernel
theorem dX5_trend_198 : decode cX5_trend 198 = .ok (.iload 8, 2) := by decide +kernel
theorem dX5_trend_200 : decode cX5_trend 200 = .ok (.ishl, 1) := by decide +kernel
theorem dX5_trend_201 : decode cX5_trend 201 = .ok (.iconst 1, 1) := by decide +kernel
theorem dX5_trend_202 : decode cX5_trend 202 = .ok (.isub, 1) := by decide +kernel
theorem dX5_trend_203 : decode cX5_trend 203 = .ok (.iload 8, 2) := by decide +kernel
theorem dX5_trend_205 : decode cX5_trend 205 = .ok (.invokevirtual 131, 3) := by decide +kernel
theorem dX5_trend_208 : decode cX5_trend 208 = .ok (.iadd, 1) := by decide +kernel
theorem dX5_trend_209 : decode cX5_trend 209 = .ok (.istore 7, 2) := by decide +kernel
theorem dX5_trend_211 : decode cX5_trend 211 = .ok (.iinc 8 1, 3) := by decide +kernel
theorem dX5_trend_214 : decode cX5_trend 214 = .ok (.goto (-26), 3) := by decide +kernel
theorem dX5_trend_217 : decode cX5_trend 217 = .ok (.aload_n 0, 1) := by decide +kernel
theorem dX5_trend_218 : decode cX5_trend 218 = .ok (.iload 7, 2) := by decide +kernel
theorem dX5_trend_220 : decode cX5_trend 220 = .ok (.iload_n 3, 1) := by decide +kernel
theorem dX5_trend_221 : decode cX5_trend 221 = .ok (.invokevirtual 134, 3) := by decide +kernel
theorem dX5_trend_224 : decode cX5_trend 224 = .ok (.istore 8, 2) := by decide +kernel
theorem dX5_trend_226 : decode cX5_trend 226 = .ok (.iload 4, 2) := by decide +kernel
theorem dX5_trend_228 : decode cX5_trend 228 = .ok (.ifCond .ne 8, 3) := by decide +kernel
theorem dX5_trend_231 : decode cX5_trend 231 = .ok (.iload 7, 2) := by decide +kernel
theorem dX5_trend_233 : decode cX5_trend 233 = .ok (.goto 24, 3) := by decide +kernel
theorem dX5_trend_236 : decode cX5_trend 236 = .ok (.iload 4, 2) := by decide +kernel
theorem dX5_trend_238 : decode cX5_trend 238 = .ok (.iconst 1, 1) := by decide +kernel
theorem dX5_trend_239 : decode cX5_trend 239 = .ok (.if_icmp .ne 8, 3) := by decide +kernel
theorem dX5_trend_242 : decode cX5_trend 242 = .ok (.iload 8, 2) := by decide +kernel
theorem dX5_trend_244 : decode cX5_trend 244 = .ok (.goto 5, 3) := by decide +kernel
theorem dX5_trend_247 : decode cX5_trend 247 = .ok (.iload 6, 2) := by decide +kernel
theorem dX5_trend_249 : decode cX5_trend 249 = .ok (.iload 8, 2) := by decide +kernel
theorem dX5_trend_251 : decode cX5_trend 251 = .ok (.iload 6, 2) := by decide +kernel
theorem dX5_trend_253 : decode cX5_trend 253 = .ok (.invokestatic 124, 3) := by decide +kernel
theorem dX5_trend_256 : decode cX5_trend 256 = .ok (.idiv, 1) := by decide +kernel
theorem dX5_trend_257 : decode cX5_trend 257 = .ok (.ireturn, 1) := by decide +kernel
theorem dX5_rowsOf_0 : decode cX5_rowsOf 0 = .ok (.iconst 0, 1) := by decide +kernel
theorem dX5_rowsOf_1 : decode cX5_rowsOf 1 = .ok (.istore_n 3, 1) := by decide +kernel
theorem dX5_rowsOf_2 : decode cX5_rowsOf 2 = .ok (.iconst 0, 1) := by decide +kernel
theorem dX5_rowsOf_3 : decode cX5_rowsOf 3 = .ok (.istore 4, 2) := by decide +kernel
theorem dX5_rowsOf_5 : decode cX5_rowsOf 5 = .ok (.iload 4, 2) := by decide +kernel
theorem dX5_rowsOf_7 : decode cX5_rowsOf 7 = .ok (.aload_n 0, 1) := by decide +kernel
theorem dX5_rowsOf_8 : decode cX5_rowsOf 8 = .ok (.getfield 87, 3) := by decide +kernel
theorem dX5_rowsOf_11 : decode cX5_rowsOf 11 = .ok (.if_icmp .ge 36, 3) := by decide +kernel
theorem dX5_rowsOf_14 : decode cX5_rowsOf 14 = .ok (.iload_n 3, 1) := by decide +kernel
theorem dX5_rowsOf_15 : decode cX5_rowsOf 15 = .ok (.aload_n 0, 1) := by decide +kernel
theorem dX5_rowsOf_16 : decode cX5_rowsOf 16 = .ok (.iload 4, 2) := by decide +kernel
theorem dX5_rowsOf_18 : decode cX5_rowsOf 18 = .ok (.aload_n 0, 1) := by decide +kernel
theorem dX5_rowsOf_19 : decode cX5_rowsOf 19 = .ok (.getfield 97, 3) := by decide +kernel
theorem dX5_rowsOf_22 : decode cX5_rowsOf 22 = .ok (.aload_n 0, 1) := by decide +kernel
theorem dX5_rowsOf_23 : decode cX5_rowsOf 23 = .ok (.getfield 44, 3) := by decide +kernel
theorem dX5_rowsOf_26 : decode cX5_rowsOf 26 = .ok (.iload_n 2, 1) := by decide +kernel
theorem dX5_rowsOf_27 : decode cX5_rowsOf 27 = .ok (.iload_n 1, 1) := by decide +kernel
theorem dX5_rowsOf_28 : decode cX5_rowsOf 28 = .ok (.invokevirtual 100, 3) := by decide +kernel
theorem dX5_rowsOf_31 : decode cX5_rowsOf 31 = .ok (.ifCond .eq 7, 3) := by decide +kernel
theorem dX5_rowsOf_34 : decode cX5_rowsOf 34 = .ok (.iconst 1, 1) := by decide +kernel
theorem dX5_rowsOf_35 : decode cX5_rowsOf 35 = .ok (.goto 4, 3) := by decide +kernel
theorem dX5_rowsOf_38 : decode cX5_rowsOf 38 = .ok (.iconst 0, 1) := by decide +kernel
theorem dX5_rowsOf_39 : decode cX5_rowsOf 39 = .ok (.iadd, 1) := by decide +kernel
theorem dX5_rowsOf_40 : decode cX5_rowsOf 40 = .ok (.istore_n 3, 1) := by decide +kernel
theorem dX5_rowsOf_41 : decode cX5_rowsOf 41 = .ok (.iinc 4 1, 3) := by decide +kernel
theorem dX5_rowsOf_44 : decode cX5_rowsOf 44 = .ok (.goto (-39), 3) := by decide +kernel
theorem dX5_rowsOf_47 : decode cX5_rowsOf 47 = .ok (.iload_n 3, 1) := by decide +kernel
theorem dX5_rowsOf_48 : decode cX5_rowsOf 48 = .ok (.ireturn, 1) := by decide +kernel
theorem dX5_people_0 : decode cX5_people 0 = .ok (.aload_n 0, 1) := by decide +kernel
theorem dX5_people_1 : decode cX5_people 1 = .ok (.iload_n 1, 1) := by decide +kernel
theorem dX5_people_2 : decode cX5_people 2 = .ok (.iconst 0, 1) := by decide +kernel
theorem dX5_people_3 : decode cX5_people 3 = .ok (.bipush 9, 2) := by decide +kernel
theorem dX5_people_5 : decode cX5_people 5 = .ok (.invokestatic 79, 3) := by decide +kernel
theorem dX5_people_8 : decode cX5_people 8 = .ok (.ifCond .ne 7, 3) := by decide +kernel
theorem dX5_people_11 : decode cX5_people 11 = .ok (.iconst 1, 1) := by decide +kernel
theorem dX5_people_12 : decode cX5_people 12 = .ok (.goto 4, 3) := by decide +kernel
theorem dX5_people_15 : decode cX5_people 15 = .ok (.iconst 0, 1) := by decide +kernel
theorem dX5_people_16 : decode cX5_people 16 = .ok (.iload_n 2, 1) := by decide +kernel
theorem dX5_people_17 : decode cX5_people 17 = .ok (.iconst 0, 1) := by decide +kernel
theorem dX5_people_18 : decode cX5_people 18 = .ok (.ldc 137, 2) := by decide +kernel
theorem dX5_people_20 : decode cX5_people 20 = .ok (.invokestatic 79, 3) := by decide +kernel
theorem dX5_people_23 : decode cX5_people 23 = .ok (.ifCond .ne 7, 3) := by decide +kernel
theorem dX5_people_26 : decode cX5_people 26 = .ok (.iconst 1, 1) := by decide +kernel
theorem dX5_people_27 : decode cX5_people 27 = .ok (.goto 4, 3) := by decide +kernel
theorem dX5_people_30 : decode cX5_people 30 = .ok (.iconst 0, 1) := by decide +kernel
theorem dX5_people_31 : decode cX5_people 31 = .ok (.iconst 0, 1) := by decide +kernel
theorem dX5_people_32 : decode cX5_people 32 = .ok (.invokevirtual 90, 3) := by decide +kernel
theorem dX5_people_35 : decode cX5_people 35 = .ok (.ifCond .eq 4, 3) := by decide +kernel
theorem dX5_people_38 : decode cX5_people 38 = .ok (.return_, 1) := by decide +kernel
theorem dX5_people_39 : decode cX5_people 39 = .ok (.aload_n 0, 1) := by decide +kernel
theorem dX5_people_40 : decode cX5_people 40 = .ok (.getfield 54, 3) := by decide +kernel
theorem dX5_people_43 : decode cX5_people 43 = .ok (.iload_n 1, 1) := by decide +kernel
theorem dX5_people_44 : decode cX5_people 44 = .ok (.iload_n 2, 1) := by decide +kernel
theorem dX5_people_45 : decode cX5_people 45 = .ok (.iastore, 1) := by decide +kernel
theorem dX5_people_46 : decode cX5_people 46 = .ok (.return_, 1) := by decide +kernel
theorem dX5_perThousand_0 : decode cX5_perThousand 0 = .ok (.iload_n 1, 1) := by decide +kernel
theorem dX5_perThousand_1 : decode cX5_perThousand 1 = .ok (.iconst 0, 1) := by decide +kernel
theorem dX5_perThousand_2 : decode cX5_perThousand 2 = .ok (.bipush 9, 2) := by decide +kernel
theorem dX5_perThousand_4 : decode cX5_perThousand 4 = .ok (.invokestatic 79, 3) := by decide +kernel
theorem dX5_perThousand_7 : decode cX5_perThousand 7 = .ok (.ifCond .ne 7, 3) := by decide +kernel
theorem dX5_perThousand_10 : decode cX5_perThousand 10 = .ok (.iconst 1, 1) := by decide +kernel
theorem dX5_perThousand_11 : decode cX5_perThousand 11 = .ok (.goto 4, 3) := by decide +kernel
theorem dX5_perThousand_14 : decode cX5_perThousand 14 = .ok (.iconst 0, 1) := by decide +kernel
theorem dX5_perThousand_15 : decode cX5_perThousand 15 = .ok (.istore_n 2, 1) := by decide +kernel
theorem dX5_perThousand_16 : decode cX5_perThousand 16 = .ok (.aload_n 0, 1) := by decide +kernel
theorem dX5_perThousand_17 : decode cX5_perThousand 17 = .ok (.iload_n 2, 1) := by decide +kernel
theorem dX5_perThousand_18 : decode cX5_perThousand 18 = .ok (.iload_n 2, 1) := by decide +kernel
theorem dX5_perThousand_19 : decode cX5_perThousand 19 = .ok (.ifCond .ne 24, 3) := by decide +kernel
theorem dX5_perThousand_22 : decode cX5_perThousand 22 = .ok (.aload_n 0, 1) := by decide +kernel
theorem dX5_perThousand_23 : decode cX5_perThousand 23 = .ok (.getfield 54, 3) := by decide +kernel
theorem dX5_perThousand_26 : decode cX5_perThousand 26 = .ok (.iload_n 2, 1) := by decide +kernel
theorem dX5_perThousand_27 : decode cX5_perThousand 27 = .ok (.ifCond .eq 7, 3) := by decide +kernel
theorem dX5_perThousand_30 : decode cX5_perThousand 30 = .ok (.iconst 0, 1) := by decide +kernel
theorem dX5_perThousand_31 : decode cX5_perThousand 31 = .ok (.goto 4, 3) := by decide +kernel
theorem dX5_perThousand_34 : decode cX5_perThousand 34 = .ok (.iload_n 1, 1) := by decide +kernel
theorem dX5_perThousand_35 : decode cX5_perThousand 35 = .ok (.iaload, 1) := by decide +kernel
theorem dX5_perThousand_36 : decode cX5_perThousand 36 = .ok (.ifCond .ne 7, 3) := by decide +kernel
theorem dX5_perThousand_39 : decode cX5_perThousand 39 = .ok (.iconst 1, 1) := by decide +kernel
theorem dX5_perThousand_40 : decode cX5_perThousand 40 = .ok (.goto 4, 3) := by decide +kernel
theorem dX5_perThousand_43 : decode cX5_perThousand 43 = .ok (.iconst 0, 1) := by decide +kernel
theorem dX5_perThousand_44 : decode cX5_perThousand 44 = .ok (.iconst 0, 1) := by decide +kernel
theorem dX5_perThousand_45 : decode cX5_perThousand 45 = .ok (.invokevirtual 90, 3) := by decide +kernel
theorem dX5_perThousand_48 : decode cX5_perThousand 48 = .ok (.ifCond .eq 5, 3) := by decide +kernel
theorem dX5_perThousand_51 : decode cX5_perThousand 51 = .ok (.iconst 0, 1) := by decide +kernel
theorem dX5_perThousand_52 : decode cX5_perThousand 52 = .ok (.ireturn, 1) := by decide +kernel
theorem dX5_perThousand_53 : decode cX5_perThousand 53 = .ok (.sipush 1000, 3) := by decide +kernel
theorem dX5_perThousand_56 : decode cX5_perThousand 56 = .ok (.aload_n 0, 1) := by decide +kernel
theorem dX5_perThousand_57 : decode cX5_perThousand 57 = .ok (.iload_n 1, 1) := by decide +kernel
theorem dX5_perThousand_58 : decode cX5_perThousand 58 = .ok (.aload_n 0, 1) := by decide +kernel
theorem dX5_perThousand_59 : decode cX5_perThousand 59 = .ok (.getfield 48, 3) := by decide +kernel
theorem dX5_perThousand_62 : decode cX5_perThousand 62 = .ok (.invokevirtual 138, 3) := by decide +kernel
theorem dX5_perThousand_65 : decode cX5_perThousand 65 = .ok (.imul, 1) := by decide +kernel
theorem dX5_perThousand_66 : decode cX5_perThousand 66 = .ok (.aload_n 0, 1) := by decide +kernel
theorem dX5_perThousand_67 : decode cX5_perThousand 67 = .ok (.getfield 54, 3) := by decide +kernel
theorem dX5_perThousand_70 : decode cX5_perThousand 70 = .ok (.iload_n 1, 1) := by decide +kernel
theorem dX5_perThousand_71 : decode cX5_perThousand 71 = .ok (.iaload, 1) := by decide +kernel
theorem dX5_perThousand_72 : decode cX5_perThousand 72 = .ok (.idiv, 1) := by decide +kernel
theorem dX5_perThousand_73 : decode cX5_perThousand 73 = .ok (.ireturn, 1) := by decide +kernel
theorem dX5_rank_0 : decode cX5_rank 0 = .ok (.aload_n 0, 1) := by decide +kernel
theorem dX5_rank_1 : decode cX5_rank 1 = .ok (.iload_n 1, 1) := by decide +kernel
theorem dX5_rank_2 : decode cX5_rank 2 = .ok (.iconst 0, 1) := by decide +kernel
theorem dX5_rank_3 : decode cX5_rank 3 = .ok (.bipush 9, 2) := by decide +kernel
theorem dX5_rank_5 : decode cX5_rank 5 = .ok (.invokestatic 79, 3) := by decide +kernel
theorem dX5_rank_8 : decode cX5_rank 8 = .ok (.ifCond .ne 7, 3) := by decide +kernel
theorem dX5_rank_11 : decode cX5_rank 11 = .ok (.iconst 1, 1) := by decide +kernel
theorem dX5_rank_12 : decode cX5_rank 12 = .ok (.goto 4, 3) := by decide +kernel
theorem dX5_rank_15 : decode cX5_rank 15 = .ok (.iconst 0, 1) := by decide +kernel
theorem dX5_rank_16 : decode cX5_rank 16 = .ok (.iconst 0, 1) := by decide +kernel
theorem dX5_rank_17 : decode cX5_rank 17 = .ok (.iconst 0, 1) := by decide +kernel
theorem dX5_rank_18 : decode cX5_rank 18 = .ok (.invokevirtual 90, 3) := by decide +kernel
theorem dX5_rank_21 : decode cX5_rank 21 = .ok (.ifCond .eq 5, 3) := by decide +kernel
theorem dX5_rank_24 : decode cX5_rank 24 = .ok (.iconst 0, 1) := by decide +kernel
theorem dX5_rank_25 : decode cX5_rank 25 = .ok (.ireturn, 1) := by decide +kernel
theorem dX5_rank_26 : decode cX5_rank 26 = .ok (.iconst 1, 1) := by decide +kernel
theorem dX5_rank_27 : decode cX5_rank 27 = .ok (.istore_n 2, 1) := by decide +kernel
theorem dX5_rank_28 : decode cX5_rank 28 = .ok (.iconst 0, 1) := by decide +kernel
theorem dX5_rank_29 : decode cX5_rank 29 = .ok (.istore_n 3, 1) := by decide +kernel
theorem dX5_rank_30 : decode cX5_rank 30 = .ok (.iload_n 3, 1) := by decide +kernel
theorem dX5_rank_31 : decode cX5_rank 31 = .ok (.bipush 10, 2) := by decide +kernel
theorem dX5_rank_33 : decode cX5_rank 33 = .ok (.if_icmp .ge 38, 3) := by decide +kernel
theorem dX5_rank_36 : decode cX5_rank 36 = .ok (.iload_n 2, 1) := by decide +kernel
theorem dX5_rank_37 : decode cX5_rank 37 = .ok (.aload_n 0, 1) := by decide +kernel
theorem dX5_rank_38 : decode cX5_rank 38 = .ok (.iload_n 3, 1) := by decide +kernel
theorem dX5_rank_39 : decode cX5_rank 39 = .ok (.aload_n 0, 1) := by decide +kernel
theorem dX5_rank_40 : decode cX5_rank 40 = .ok (.getfield 48, 3) := by decide +kernel
theorem dX5_rank_43 : decode cX5_rank 43 = .ok (.invokevirtual 138, 3) := by decide +kernel
theorem dX5_rank_46 : decode cX5_rank 46 = .ok (.aload_n 0, 1) := by decide +kernel
theorem dX5_rank_47 : decode cX5_rank 47 = .ok (.iload_n 1, 1) := by decide +kernel
theorem dX5_rank_48 : decode cX5_rank 48 = .ok (.aload_n 0, 1) := by decide +kernel
theorem dX5_rank_49 : decode cX5_rank 49 = .ok (.getfield 48, 3) := by decide +kernel
theorem dX5_rank_52 : decode cX5_rank 52 = .ok (.invokevirtual 138, 3) := by decide +kernel
theorem dX5_rank_55 : decode cX5_rank 55 = .ok (.if_icmp .le 7, 3) := by decide +kernel
theorem dX5_rank_58 : decode cX5_rank 58 = .ok (.iconst 1, 1) := by decide +kernel
theorem dX5_rank_59 : decode cX5_rank 59 = .ok (.goto 4, 3) := by decide +kernel
theorem dX5_rank_62 : decode cX5_rank 62 = .ok (.iconst 0, 1) := by decide +kernel
theorem dX5_rank_63 : decode cX5_rank 63 = .ok (.iadd, 1) := by decide +kernel
theorem dX5_rank_64 : decode cX5_rank 64 = .ok (.istore_n 2, 1) := by decide +kernel
theorem dX5_rank_65 : decode cX5_rank 65 = .ok (.iinc 3 1, 3) := by decide +kernel
theorem dX5_rank_68 : decode cX5_rank 68 = .ok (.goto (-38), 3) := by decide +kernel
theorem dX5_rank_71 : decode cX5_rank 71 = .ok (.iload_n 2, 1) := by decide +kernel
theorem dX5_rank_72 : decode cX5_rank 72 = .ok (.ireturn, 1) := by decide +kernel
theorem dX5_least_0 : decode cX5_least 0 = .ok (.aload_n 0, 1) := by decide +kernel
theorem dX5_least_1 : decode cX5_least 1 = .ok (.iload_n 1, 1) := by decide +kernel
theorem dX5_least_2 : decode cX5_least 2 = .ok (.iconst 1, 1) := by decide +kernel
theorem dX5_least_3 : decode cX5_least 3 = .ok (.bipush 100, 2) := by decide +kernel
theorem dX5_least_5 : decode cX5_least 5 = .ok (.invokestatic 79, 3) := by decide +kernel
theorem dX5_least_8 : decode cX5_least 8 = .ok (.ifCond .ne 7, 3) := by decide +kernel
theorem dX5_least_11 : decode cX5_least 11 = .ok (.iconst 1, 1) := by decide +kernel
theorem dX5_least_12 : decode cX5_least 12 = .ok (.goto 4, 3) := by decide +kernel
theorem dX5_least_15 : decode cX5_least 15 = .ok (.iconst 0, 1) := by decide +kernel
theorem dX5_least_16 : decode cX5_least 16 = .ok (.iconst 0, 1) := by decide +kernel
theorem dX5_least_17 : decode cX5_least 17 = .ok (.iconst 0, 1) := by decide +kernel
theorem dX5_least_18 : decode cX5_least 18 = .ok (.invokevirtual 90, 3) := by decide +kernel
theorem dX5_least_21 : decode cX5_least 21 = .ok (.ifCond .eq 4, 3) := by decide +kernel
theorem dX5_least_24 : decode cX5_least 24 = .ok (.return_, 1) := by decide +kernel
theorem dX5_least_25 : decode cX5_least 25 = .ok (.aload_n 0, 1) := by decide +kernel
theorem dX5_least_26 : decode cX5_least 26 = .ok (.iload_n 1, 1) := by decide +kernel
theorem dX5_least_27 : decode cX5_least 27 = .ok (.putfield 57, 3) := by decide +kernel
theorem dX5_least_30 : decode cX5_least 30 = .ok (.return_, 1) := by decide +kernel
theorem dX5_join_0 : decode cX5_join 0 = .ok (.iconst 0, 1) := by decide +kernel
theorem dX5_join_1 : decode cX5_join 1 = .ok (.istore_n 1, 1) := by decide +kernel
theorem dX5_join_2 : decode cX5_join 2 = .ok (.iconst 0, 1) := by decide +kernel
theorem dX5_join_3 : decode cX5_join 3 = .ok (.istore_n 2, 1) := by decide +kernel
theorem dX5_join_4 : decode cX5_join 4 = .ok (.iconst 0, 1) := by decide +kernel
theorem dX5_join_5 : decode cX5_join 5 = .ok (.istore_n 3, 1) := by decide +kernel
theorem dX5_join_6 : decode cX5_join 6 = .ok (.iload_n 3, 1) := by decide +kernel
theorem dX5_join_7 : decode cX5_join 7 = .ok (.aload_n 0, 1) := by decide +kernel
theorem dX5_join_8 : decode cX5_join 8 = .ok (.getfield 87, 3) := by decide +kernel
theorem dX5_join_11 : decode cX5_join 11 = .ok (.if_icmp .ge 46, 3) := by decide +kernel
theorem dX5_join_14 : decode cX5_join 14 = .ok (.iload_n 1, 1) := by decide +kernel
theorem dX5_join_15 : decode cX5_join 15 = .ok (.aload_n 0, 1) := by decide +kernel
theorem dX5_join_16 : decode cX5_join 16 = .ok (.getfield 29, 3) := by decide +kernel
theorem dX5_join_19 : decode cX5_join 19 = .ok (.iload_n 3, 1) := by decide +kernel
theorem dX5_join_20 : decode cX5_join 20 = .ok (.baload, 1) := by decide +kernel
theorem dX5_join_21 : decode cX5_join 21 = .ok (.ifCond .eq 27, 3) := by decide +kernel
theorem dX5_join_24 : decode cX5_join 24 = .ok (.aload_n 0, 1) := by decide +kernel
theorem dX5_join_25 : decode cX5_join 25 = .ok (.getfield 7, 3) := by decide +kernel
theorem dX5_join_28 : decode cX5_join 28 = .ok (.iload_n 3, 1) := by decide +kernel
theorem dX5_join_29 : decode cX5_join 29 = .ok (.iaload, 1) := by decide +kernel
theorem dX5_join_30 : decode cX5_join 30 = .ok (.aload_n 0, 1) := by decide +kernel
theorem dX5_join_31 : decode cX5_join 31 = .ok (.getfield 97, 3) := by decide +kernel
theorem dX5_join_34 : decode cX5_join 34 = .ok (.aload_n 0, 1) := by decide +kernel
theorem dX5_join_35 : decode cX5_join 35 = .ok (.getfield 44, 3) := by decide +kernel
theorem dX5_join_38 : decode cX5_join 38 = .ok (.invokestatic 79, 3) := by decide +kernel
theorem dX5_join_41 : decode cX5_join 41 = .ok (.ifCond .eq 7, 3) := by decide +kernel
theorem dX5_join_44 : decode cX5_join 44 = .ok (.iconst 1, 1) := by decide +kernel
theorem dX5_join_45 : decode cX5_join 45 = .ok (.goto 4, 3) := by decide +kernel
theorem dX5_join_48 : decode cX5_join 48 = .ok (.iconst 0, 1) := by decide +kernel
theorem dX5_join_49 : decode cX5_join 49 = .ok (.iadd, 1) := by decide +kernel
theorem dX5_join_50 : decode cX5_join 50 = .ok (.istore_n 1, 1) := by decide +kernel
theorem dX5_join_51 : decode cX5_join 51 = .ok (.iinc 3 1, 3) := by decide +kernel
theorem dX5_join_54 : decode cX5_join 54 = .ok (.goto (-48), 3) := by decide +kernel
theorem dX5_join_57 : decode cX5_join 57 = .ok (.iconst 0, 1) := by decide +kernel
theorem dX5_join_58 : decode cX5_join 58 = .ok (.istore_n 3, 1) := by decide +kernel
theorem dX5_join_59 : decode cX5_join 59 = .ok (.iload_n 3, 1) := by decide +kernel
theorem dX5_join_60 : decode cX5_join 60 = .ok (.bipush 10, 2) := by decide +kernel
theorem dX5_join_62 : decode cX5_join 62 = .ok (.if_icmp .ge 72, 3) := by decide +kernel
theorem dX5_join_65 : decode cX5_join 65 = .ok (.aload_n 0, 1) := by decide +kernel
theorem dX5_join_66 : decode cX5_join 66 = .ok (.iload_n 3, 1) := by decide +kernel
theorem dX5_join_67 : decode cX5_join 67 = .ok (.iconst (-1), 1) := by decide +kernel
theorem dX5_join_68 : decode cX5_join 68 = .ok (.invokevirtual 138, 3) := by decide +kernel
theorem dX5_join_71 : decode cX5_join 71 = .ok (.istore 4, 2) := by decide +kernel
theorem dX5_join_73 : decode cX5_join 73 = .ok (.aload_n 0, 1) := by decide +kernel
theorem dX5_join_74 : decode cX5_join 74 = .ok (.getfield 69, 3) := by decide +kernel
theorem dX5_join_77 : decode cX5_join 77 = .ok (.iload_n 3, 1) := by decide +kernel
theorem dX5_join_78 : decode cX5_join 78 = .ok (.iload 4, 2) := by decide +kernel
theorem dX5_join_80 : decode cX5_join 80 = .ok (.iconst 1, 1) := by decide +kernel
theorem dX5_join_81 : decode cX5_join 81 = .ok (.aload_n 0, 1) := by decide +kernel
theorem dX5_join_82 : decode cX5_join 82 = .ok (.getfield 57, 3) := by decide +kernel
theorem dX5_join_85 : decode cX5_join 85 = .ok (.iconst 1, 1) := by decide +kernel
theorem dX5_join_86 : decode cX5_join 86 = .ok (.isub, 1) := by decide +kernel
theorem dX5_join_87 : decode cX5_join 87 = .ok (.invokestatic 79, 3) := by decide +kernel
theorem dX5_join_90 : decode cX5_join 90 = .ok (.bastore, 1) := by decide +kernel
theorem dX5_join_91 : decode cX5_join 91 = .ok (.iload_n 1, 1) := by decide +kernel
theorem dX5_join_92 : decode cX5_join 92 = .ok (.aload_n 0, 1) := by decide +kernel
theorem dX5_join_93 : decode cX5_join 93 = .ok (.getfield 69, 3) := by decide +kernel
theorem dX5_join_96 : decode cX5_join 96 = .ok (.iload_n 3, 1) := by decide +kernel
theorem dX5_join_97 : decode cX5_join 97 = .ok (.baload, 1) := by decide +kernel
theorem dX5_join_98 : decode cX5_join 98 = .ok (.ifCond .eq 8, 3) := by decide +kernel
theorem dX5_join_101 : decode cX5_join 101 = .ok (.iload 4, 2) := by decide +kernel
theorem dX5_join_103 : decode cX5_join 103 = .ok (.goto 4, 3) := by decide +kernel
theorem dX5_join_106 : decode cX5_join 106 = .ok (.iconst 0, 1) := by decide +kernel
theorem dX5_join_107 : decode cX5_join 107 = .ok (.iadd, 1) := by decide +kernel
theorem dX5_join_108 : decode cX5_join 108 = .ok (.istore_n 1, 1) := by decide +kernel
theorem dX5_join_109 : decode cX5_join 109 = .ok (.iload_n 2, 1) := by decide +kernel
theorem dX5_join_110 : decode cX5_join 110 = .ok (.ifCond .ne 12, 3) := by decide +kernel
theorem dX5_join_113 : decode cX5_join 113 = .ok (.aload_n 0, 1) := by decide +kernel
theorem dX5_join_114 : decode cX5_join 114 = .ok (.getfield 69, 3) := by decide +kernel
theorem dX5_join_117 : decode cX5_join 117 = .ok (.iload_n 3, 1) := by decide +kernel
theorem dX5_join_118 : decode cX5_join 118 = .ok (.baload, 1) := by decide +kernel
theorem dX5_join_119 : decode cX5_join 119 = .ok (.ifCond .eq 7, 3) := by decide +kernel
theorem dX5_join_122 : decode cX5_join 122 = .ok (.iconst 1, 1) := by decide +kernel
theorem dX5_join_123 : decode cX5_join 123 = .ok (.goto 4, 3) := by decide +kernel
theorem dX5_join_126 : decode cX5_join 126 = .ok (.iconst 0, 1) := by decide +kernel
theorem dX5_join_127 : decode cX5_join 127 = .ok (.istore_n 2, 1) := by decide +kernel
theorem dX5_join_128 : decode cX5_join 128 = .ok (.iinc 3 1, 3) := by decide +kernel
theorem dX5_join_131 : decode cX5_join 131 = .ok (.goto (-72), 3) := by decide +kernel
theorem dX5_join_134 : decode cX5_join 134 = .ok (.iload_n 2, 1) := by decide +kernel
theorem dX5_join_135 : decode cX5_join 135 = .ok (.ifCond .ne 5, 3) := by decide +kernel
theorem dX5_join_138 : decode cX5_join 138 = .ok (.iconst 0, 1) := by decide +kernel
theorem dX5_join_139 : decode cX5_join 139 = .ok (.ireturn, 1) := by decide +kernel
theorem dX5_join_140 : decode cX5_join 140 = .ok (.iconst 1, 1) := by decide +kernel
theorem dX5_join_141 : decode cX5_join 141 = .ok (.istore_n 3, 1) := by decide +kernel
theorem dX5_join_142 : decode cX5_join 142 = .ok (.iload_n 1, 1) := by decide +kernel
theorem dX5_join_143 : decode cX5_join 143 = .ok (.aload_n 0, 1) := by decide +kernel
theorem dX5_join_144 : decode cX5_join 144 = .ok (.getfield 57, 3) := by decide +kernel
theorem dX5_join_147 : decode cX5_join 147 = .ok (.if_icmp .ge 108, 3) := by decide +kernel
theorem dX5_join_150 : decode cX5_join 150 = .ok (.iload_n 3, 1) := by decide +kernel
theorem dX5_join_151 : decode cX5_join 151 = .ok (.ifCond .eq 104, 3) := by decide +kernel
theorem dX5_join_154 : decode cX5_join 154 = .ok (.iconst (-1), 1) := by decide +kernel
theorem dX5_join_155 : decode cX5_join 155 = .ok (.istore 4, 2) := by decide +kernel
theorem dX5_join_157 : decode cX5_join 157 = .ok (.iconst 0, 1) := by decide +kernel
theorem dX5_join_158 : decode cX5_join 158 = .ok (.istore 5, 2) := by decide +kernel
theorem dX5_join_160 : decode cX5_join 160 = .ok (.iload 5, 2) := by decide +kernel
theorem dX5_join_162 : decode cX5_join 162 = .ok (.bipush 10, 2) := by decide +kernel
theorem dX5_join_164 : decode cX5_join 164 = .ok (.if_icmp .ge 55, 3) := by decide +kernel
theorem dX5_join_167 : decode cX5_join 167 = .ok (.aload_n 0, 1) := by decide +kernel
theorem dX5_join_168 : decode cX5_join 168 = .ok (.getfield 69, 3) := by decide +kernel
theorem dX5_join_171 : decode cX5_join 171 = .ok (.iload 5, 2) := by decide +kernel
theorem dX5_join_173 : decode cX5_join 173 = .ok (.baload, 1) := by decide +kernel
theorem dX5_join_174 : decode cX5_join 174 = .ok (.ifCond .ne 39, 3) := by decide +kernel
theorem dX5_join_177 : decode cX5_join 177 = .ok (.aload_n 0, 1) := by decide +kernel
theorem dX5_join_178 : decode cX5_join 178 = .ok (.iload 5, 2) := by decide +kernel
theorem dX5_join_180 : decode cX5_join 180 = .ok (.iconst (-1), 1) := by decide +kernel
theorem dX5_join_181 : decode cX5_join 181 = .ok (.invokevirtual 138, 3) := by decide +kernel
theorem dX5_join_184 : decode cX5_join 184 = .ok (.ifCond .le 29, 3) := by decide +kernel
theorem dX5_join_187 : decode cX5_join 187 = .ok (.iload 4, 2) := by decide +kernel
theorem dX5_join_189 : decode cX5_join 189 = .ok (.ifCond .lt 20, 3) := by decide +kernel
theorem dX5_join_192 : decode cX5_join 192 = .ok (.aload_n 0, 1) := by decide +kernel
theorem dX5_join_193 : decode cX5_join 193 = .ok (.iload 5, 2) := by decide +kernel
theorem dX5_join_195 : decode cX5_join 195 = .ok (.iconst (-1), 1) := by decide +kernel
theorem dX5_join_196 : decode cX5_join 196 = .ok (.invokevirtual 138, 3) := by decide +kernel
theorem dX5_join_199 : decode cX5_join 199 = .ok (.aload_n 0, 1) := by decide +kernel
theorem dX5_join_200 : decode cX5_join 200 = .ok (.iload 4, 2) := by decide +kernel
theorem dX5_join_202 : decode cX5_join 202 = .ok (.iconst (-1), 1) := by decide +kernel
theorem dX5_join_203 : decode cX5_join 203 = .ok (.invokevirtual 138, 3) := by decide +kernel
theorem dX5_join_206 : decode cX5_join 206 = .ok (.if_icmp .ge 7, 3) := by decide +kernel
theorem dX5_join_209 : decode cX5_join 209 = .ok (.iload 5, 2) := by decide +kernel
theorem dX5_join_211 : decode cX5_join 211 = .ok (.istore 4, 2) := by decide +kernel
theorem dX5_join_213 : decode cX5_join 213 = .ok (.iinc 5 1, 3) := by decide +kernel
theorem dX5_join_216 : decode cX5_join 216 = .ok (.goto (-56), 3) := by decide +kernel
theorem dX5_join_219 : decode cX5_join 219 = .ok (.iload 4, 2) := by decide +kernel
theorem dX5_join_221 : decode cX5_join 221 = .ok (.ifCond .lt 7, 3) := by decide +kernel
theorem dX5_join_224 : decode cX5_join 224 = .ok (.iconst 1, 1) := by decide +kernel
theorem dX5_join_225 : decode cX5_join 225 = .ok (.goto 4, 3) := by decide +kernel
theorem dX5_join_228 : decode cX5_join 228 = .ok (.iconst 0, 1) := by decide +kernel
theorem dX5_join_229 : decode cX5_join 229 = .ok (.istore_n 3, 1) := by decide +kernel
theorem dX5_join_230 : decode cX5_join 230 = .ok (.iload_n 3, 1) := by decide +kernel
theorem dX5_join_231 : decode cX5_join 231 = .ok (.ifCond .eq 21, 3) := by decide +kernel
theorem dX5_join_234 : decode cX5_join 234 = .ok (.aload_n 0, 1) := by decide +kernel
theorem dX5_join_235 : decode cX5_join 235 = .ok (.getfield 69, 3) := by decide +kernel
theorem dX5_join_238 : decode cX5_join 238 = .ok (.iload 4, 2) := by decide +kernel
theorem dX5_join_240 : decode cX5_join 240 = .ok (.iconst 1, 1) := by decide +kernel
theorem dX5_join_241 : decode cX5_join 241 = .ok (.bastore, 1) := by decide +kernel
theorem dX5_join_242 : decode cX5_join 242 = .ok (.iload_n 1, 1) := by decide +kernel
theorem dX5_join_243 : decode cX5_join 243 = .ok (.aload_n 0, 1) := by decide +kernel
theorem dX5_join_244 : decode cX5_join 244 = .ok (.iload 4, 2) := by decide +kernel
theorem dX5_join_246 : decode cX5_join 246 = .ok (.iconst (-1), 1) := by decide +kernel
theorem dX5_join_247 : decode cX5_join 247 = .ok (.invokevirtual 138, 3) := by decide +kernel
theorem dX5_join_250 : decode cX5_join 250 = .ok (.iadd, 1) := by decide +kernel
theorem dX5_join_251 : decode cX5_join 251 = .ok (.istore_n 1, 1) := by decide +kernel
theorem dX5_join_252 : decode cX5_join 252 = .ok (.goto (-110), 3) := by decide +kernel
theorem dX5_join_255 : decode cX5_join 255 = .ok (.iload_n 1, 1) := by decide +kernel
theorem dX5_join_256 : decode cX5_join 256 = .ok (.ireturn, 1) := by decide +kernel
theorem dX5_shown_0 : decode cX5_shown 0 = .ok (.aload_n 0, 1) := by decide +kernel
theorem dX5_shown_1 : decode cX5_shown 1 = .ok (.iload_n 1, 1) := by decide +kernel
theorem dX5_shown_2 : decode cX5_shown 2 = .ok (.iconst 0, 1) := by decide +kernel
theorem dX5_shown_3 : decode cX5_shown 3 = .ok (.bipush 9, 2) := by decide +kernel
theorem dX5_shown_5 : decode cX5_shown 5 = .ok (.invokestatic 79, 3) := by decide +kernel
theorem dX5_shown_8 : decode cX5_shown 8 = .ok (.ifCond .ne 7, 3) := by decide +kernel
theorem dX5_shown_11 : decode cX5_shown 11 = .ok (.iconst 1, 1) := by decide +kernel
theorem dX5_shown_12 : decode cX5_shown 12 = .ok (.goto 4, 3) := by decide +kernel
theorem dX5_shown_15 : decode cX5_shown 15 = .ok (.iconst 0, 1) := by decide +kernel
theorem dX5_shown_16 : decode cX5_shown 16 = .ok (.iconst 0, 1) := by decide +kernel
theorem dX5_shown_17 : decode cX5_shown 17 = .ok (.iconst 0, 1) := by decide +kernel
theorem dX5_shown_18 : decode cX5_shown 18 = .ok (.invokevirtual 90, 3) := by decide +kernel
theorem dX5_shown_21 : decode cX5_shown 21 = .ok (.ifCond .eq 5, 3) := by decide +kernel
theorem dX5_shown_24 : decode cX5_shown 24 = .ok (.iconst 0, 1) := by decide +kernel
theorem dX5_shown_25 : decode cX5_shown 25 = .ok (.ireturn, 1) := by decide +kernel
theorem dX5_shown_26 : decode cX5_shown 26 = .ok (.aload_n 0, 1) := by decide +kernel
theorem dX5_shown_27 : decode cX5_shown 27 = .ok (.invokevirtual 141, 3) := by decide +kernel
theorem dX5_shown_30 : decode cX5_shown 30 = .ok (.pop, 1) := by decide +kernel
theorem dX5_shown_31 : decode cX5_shown 31 = .ok (.aload_n 0, 1) := by decide +kernel
theorem dX5_shown_32 : decode cX5_shown 32 = .ok (.getfield 69, 3) := by decide +kernel
theorem dX5_shown_35 : decode cX5_shown 35 = .ok (.iload_n 1, 1) := by decide +kernel
theorem dX5_shown_36 : decode cX5_shown 36 = .ok (.baload, 1) := by decide +kernel
theorem dX5_shown_37 : decode cX5_shown 37 = .ok (.ifCond .eq 7, 3) := by decide +kernel
theorem dX5_shown_40 : decode cX5_shown 40 = .ok (.iconst (-1), 1) := by decide +kernel
theorem dX5_shown_41 : decode cX5_shown 41 = .ok (.goto 9, 3) := by decide +kernel
theorem dX5_shown_44 : decode cX5_shown 44 = .ok (.aload_n 0, 1) := by decide +kernel
theorem dX5_shown_45 : decode cX5_shown 45 = .ok (.iload_n 1, 1) := by decide +kernel
theorem dX5_shown_46 : decode cX5_shown 46 = .ok (.iconst (-1), 1) := by decide +kernel
theorem dX5_shown_47 : decode cX5_shown 47 = .ok (.invokevirtual 138, 3) := by decide +kernel
theorem dX5_shown_50 : decode cX5_shown 50 = .ok (.ireturn, 1) := by decide +kernel
theorem dX5_joined_0 : decode cX5_joined 0 = .ok (.aload_n 0, 1) := by decide +kernel
theorem dX5_joined_1 : decode cX5_joined 1 = .ok (.iconst 0, 1) := by decide +kernel
theorem dX5_joined_2 : decode cX5_joined 2 = .ok (.putfield 72, 3) := by decide +kernel
theorem dX5_joined_5 : decode cX5_joined 5 = .ok (.aload_n 0, 1) := by decide +kernel
theorem dX5_joined_6 : decode cX5_joined 6 = .ok (.invokevirtual 141, 3) := by decide +kernel
theorem dX5_joined_9 : decode cX5_joined 9 = .ok (.ireturn, 1) := by decide +kernel
theorem dX5_work_0 : decode cX5_work 0 = .ok (.aload_n 0, 1) := by decide +kernel
theorem dX5_work_1 : decode cX5_work 1 = .ok (.iload_n 1, 1) := by decide +kernel
theorem dX5_work_2 : decode cX5_work 2 = .ok (.iconst 0, 1) := by decide +kernel
theorem dX5_work_3 : decode cX5_work 3 = .ok (.iconst 5, 1) := by decide +kernel
theorem dX5_work_4 : decode cX5_work 4 = .ok (.invokestatic 79, 3) := by decide +kernel
theorem dX5_work_7 : decode cX5_work 7 = .ok (.ifCond .eq 12, 3) := by decide +kernel
theorem dX5_work_10 : decode cX5_work 10 = .ok (.iload_n 2, 1) := by decide +kernel
theorem dX5_work_11 : decode cX5_work 11 = .ok (.iconst 0, 1) := by decide +kernel
theorem dX5_work_12 : decode cX5_work 12 = .ok (.iconst 1, 1) := by decide +kernel
theorem dX5_work_13 : decode cX5_work 13 = .ok (.invokestatic 79, 3) := by decide +kernel
theorem dX5_work_16 : decode cX5_work 16 = .ok (.ifCond .ne 7, 3) := by decide +kernel
theorem dX5_work_19 : decode cX5_work 19 = .ok (.iconst 1, 1) := by decide +kernel
theorem dX5_work_20 : decode cX5_work 20 = .ok (.goto 4, 3) := by decide +kernel
theorem dX5_work_23 : decode cX5_work 23 = .ok (.iconst 0, 1) := by decide +kernel
theorem dX5_work_24 : decode cX5_work 24 = .ok (.iconst 0, 1) := by decide +kernel
theorem dX5_work_25 : decode cX5_work 25 = .ok (.iconst 0, 1) := by decide +kernel
theorem dX5_work_26 : decode cX5_work 26 = .ok (.invokevirtual 90, 3) := by decide +kernel
theorem dX5_work_29 : decode cX5_work 29 = .ok (.ifCond .eq 5, 3) := by decide +kernel
theorem dX5_work_32 : decode cX5_work 32 = .ok (.iconst 0, 1) := by decide +kernel
theorem dX5_work_33 : decode cX5_work 33 = .ok (.ireturn, 1) := by decide +kernel
theorem dX5_work_34 : decode cX5_work 34 = .ok (.iconst 0, 1) := by decide +kernel
theorem dX5_work_35 : decode cX5_work 35 = .ok (.istore_n 3, 1) := by decide +kernel
theorem dX5_work_36 : decode cX5_work 36 = .ok (.iconst 0, 1) := by decide +kernel
theorem dX5_work_37 : decode cX5_work 37 = .ok (.istore 4, 2) := by decide +kernel
theorem dX5_work_39 : decode cX5_work 39 = .ok (.iload 4, 2) := by decide +kernel
theorem dX5_work_41 : decode cX5_work 41 = .ok (.aload_n 0, 1) := by decide +kernel
theorem dX5_work_42 : decode cX5_work 42 = .ok (.getfield 87, 3) := by decide +kernel
theorem dX5_work_45 : decode cX5_work 45 = .ok (.if_icmp .ge 97, 3) := by decide +kernel
theorem dX5_work_48 : decode cX5_work 48 = .ok (.aload_n 0, 1) := by decide +kernel
theorem dX5_work_49 : decode cX5_work 49 = .ok (.iload 4, 2) := by decide +kernel
theorem dX5_work_51 : decode cX5_work 51 = .ok (.aload_n 0, 1) := by decide +kernel
theorem dX5_work_52 : decode cX5_work 52 = .ok (.getfield 97, 3) := by decide +kernel
theorem dX5_work_55 : decode cX5_work 55 = .ok (.aload_n 0, 1) := by decide +kernel
theorem dX5_work_56 : decode cX5_work 56 = .ok (.getfield 44, 3) := by decide +kernel
theorem dX5_work_59 : decode cX5_work 59 = .ok (.iconst (-1), 1) := by decide +kernel
theorem dX5_work_60 : decode cX5_work 60 = .ok (.iconst (-1), 1) := by decide +kernel
theorem dX5_work_61 : decode cX5_work 61 = .ok (.invokevirtual 100, 3) := by decide +kernel
theorem dX5_work_64 : decode cX5_work 64 = .ok (.ifCond .eq 72, 3) := by decide +kernel
theorem dX5_work_67 : decode cX5_work 67 = .ok (.aload_n 0, 1) := by decide +kernel
theorem dX5_work_68 : decode cX5_work 68 = .ok (.getfield 22, 3) := by decide +kernel
theorem dX5_work_71 : decode cX5_work 71 = .ok (.iload 4, 2) := by decide +kernel
theorem dX5_work_73 : decode cX5_work 73 = .ok (.iaload, 1) := by decide +kernel
theorem dX5_work_74 : decode cX5_work 74 = .ok (.iload_n 1, 1) := by decide +kernel
theorem dX5_work_75 : decode cX5_work 75 = .ok (.if_icmp .ne 61, 3) := by decide +kernel
theorem dX5_work_78 : decode cX5_work 78 = .ok (.aload_n 0, 1) := by decide +kernel
theorem dX5_work_79 : decode cX5_work 79 = .ok (.getfield 32, 3) := by decide +kernel
theorem dX5_work_82 : decode cX5_work 82 = .ok (.iload 4, 2) := by decide +kernel
theorem dX5_work_84 : decode cX5_work 84 = .ok (.iaload, 1) := by decide +kernel
theorem dX5_work_85 : decode cX5_work 85 = .ok (.ifCond .le 13, 3) := by decide +kernel
theorem dX5_work_88 : decode cX5_work 88 = .ok (.aload_n 0, 1) := by decide +kernel
theorem dX5_work_89 : decode cX5_work 89 = .ok (.getfield 32, 3) := by decide +kernel
theorem dX5_work_92 : decode cX5_work 92 = .ok (.iload 4, 2) := by decide +kernel
theorem dX5_work_94 : decode cX5_work 94 = .ok (.iaload, 1) := by decide +kernel
theorem dX5_work_95 : decode cX5_work 95 = .ok (.goto 4, 3) := by decide +kernel
theorem dX5_work_98 : decode cX5_work 98 = .ok (.iconst 0, 1) := by decide +kernel
theorem dX5_work_99 : decode cX5_work 99 = .ok (.aload_n 0, 1) := by decide +kernel
theorem dX5_work_100 : decode cX5_work 100 = .ok (.getfield 35, 3) := by decide +kernel
theorem dX5_work_103 : decode cX5_work 103 = .ok (.iload 4, 2) := by decide +kernel
theorem dX5_work_105 : decode cX5_work 105 = .ok (.iaload, 1) := by decide +kernel
theorem dX5_work_106 : decode cX5_work 106 = .ok (.ifCond .le 13, 3) := by decide +kernel
theorem dX5_work_109 : decode cX5_work 109 = .ok (.aload_n 0, 1) := by decide +kernel
theorem dX5_work_110 : decode cX5_work 110 = .ok (.getfield 35, 3) := by decide +kernel
theorem dX5_work_113 : decode cX5_work 113 = .ok (.iload 4, 2) := by decide +kernel
theorem dX5_work_115 : decode cX5_work 115 = .ok (.iaload, 1) := by decide +kernel
theorem dX5_work_116 : decode cX5_work 116 = .ok (.goto 4, 3) := by decide +kernel
theorem dX5_work_119 : decode cX5_work 119 = .ok (.iconst 0, 1) := by decide +kernel
theorem dX5_work_120 : decode cX5_work 120 = .ok (.iadd, 1) := by decide +kernel
theorem dX5_work_121 : decode cX5_work 121 = .ok (.istore 5, 2) := by decide +kernel
theorem dX5_work_123 : decode cX5_work 123 = .ok (.iload_n 3, 1) := by decide +kernel
theorem dX5_work_124 : decode cX5_work 124 = .ok (.iload_n 2, 1) := by decide +kernel
theorem dX5_work_125 : decode cX5_work 125 = .ok (.ifCond .ne 7, 3) := by decide +kernel
theorem dX5_work_128 : decode cX5_work 128 = .ok (.iconst 1, 1) := by decide +kernel
theorem dX5_work_129 : decode cX5_work 129 = .ok (.goto 5, 3) := by decide +kernel
theorem dX5_work_132 : decode cX5_work 132 = .ok (.iload 5, 2) := by decide +kernel
theorem dX5_work_134 : decode cX5_work 134 = .ok (.iadd, 1) := by decide +kernel
theorem dX5_work_135 : decode cX5_work 135 = .ok (.istore_n 3, 1) := by decide +kernel
theorem dX5_work_136 : decode cX5_work 136 = .ok (.iinc 4 1, 3) := by decide +kernel
theorem dX5_work_139 : decode cX5_work 139 = .ok (.goto (-100), 3) := by decide +kernel
theorem dX5_work_142 : decode cX5_work 142 = .ok (.iload_n 3, 1) := by decide +kernel
theorem dX5_work_143 : decode cX5_work 143 = .ok (.ireturn, 1) := by decide +kernel
