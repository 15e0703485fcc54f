theorem dX0_init_0 : decode cX0_init 0 = .ok (.aload_n 0, 1) := by decide +kernel
theorem dX0_init_1 : decode cX0_init 1 = .ok (.invokespecial 3, 3) := by decide +kernel
theorem dX0_init_4 : decode cX0_init 4 = .ok (.aload_n 0, 1) := by decide +kernel
theorem dX0_init_5 : decode cX0_init 5 = .ok (.bipush 48, 2) := by decide +kernel
theorem dX0_init_7 : decode cX0_init 7 = .ok (.newarray .int, 2) := by decide +kernel
theorem dX0_init_9 : decode cX0_init 9 = .ok (.putfield 9, 3) := by decide +kernel
theorem dX0_init_12 : decode cX0_init 12 = .ok (.aload_n 0, 1) := by decide +kernel
theorem dX0_init_13 : decode cX0_init 13 = .ok (.bipush 48, 2) := by decide +kernel
theorem dX0_init_15 : decode cX0_init 15 = .ok (.newarray .int, 2) := by decide +kernel
theorem dX0_init_17 : decode cX0_init 17 = .ok (.putfield 15, 3) := by decide +kernel
theorem dX0_init_20 : decode cX0_init 20 = .ok (.aload_n 0, 1) := by decide +kernel
theorem dX0_init_21 : decode cX0_init 21 = .ok (.bipush 48, 2) := by decide +kernel
theorem dX0_init_23 : decode cX0_init 23 = .ok (.newarray .int, 2) := by decide +kernel
theorem dX0_init_25 : decode cX0_init 25 = .ok (.putfield 18, 3) := by decide +kernel
theorem dX0_init_28 : decode cX0_init 28 = .ok (.aload_n 0, 1) := by decide +kernel
theorem dX0_init_29 : decode cX0_init 29 = .ok (.bipush 48, 2) := by decide +kernel
theorem dX0_init_31 : decode cX0_init 31 = .ok (.newarray .int, 2) := by decide +kernel
theorem dX0_init_33 : decode cX0_init 33 = .ok (.putfield 21, 3) := by decide +kernel
theorem dX0_init_36 : decode cX0_init 36 = .ok (.aload_n 0, 1) := by decide +kernel
theorem dX0_init_37 : decode cX0_init 37 = .ok (.bipush 18, 2) := by decide +kernel
theorem dX0_init_39 : decode cX0_init 39 = .ok (.newarray .int, 2) := by decide +kernel
theorem dX0_init_41 : decode cX0_init 41 = .ok (.putfield 24, 3) := by decide +kernel
theorem dX0_init_44 : decode cX0_init 44 = .ok (.aload_n 0, 1) := by decide +kernel
theorem dX0_init_45 : decode cX0_init 45 = .ok (.bipush 18, 2) := by decide +kernel
theorem dX0_init_47 : decode cX0_init 47 = .ok (.newarray .int, 2) := by decide +kernel
theorem dX0_init_49 : decode cX0_init 49 = .ok (.putfield 27, 3) := by decide +kernel
theorem dX0_init_52 : decode cX0_init 52 = .ok (.aload_n 0, 1) := by decide +kernel
theorem dX0_init_53 : decode cX0_init 53 = .ok (.bipush 6, 2) := by decide +kernel
theorem dX0_init_55 : decode cX0_init 55 = .ok (.newarray .int, 2) := by decide +kernel
theorem dX0_init_57 : decode cX0_init 57 = .ok (.putfield 30, 3) := by decide +kernel
theorem dX0_init_60 : decode cX0_init 60 = .ok (.aload_n 0, 1) := by decide +kernel
theorem dX0_init_61 : decode cX0_init 61 = .ok (.bipush 6, 2) := by decide +kernel
theorem dX0_init_63 : decode cX0_init 63 = .ok (.newarray .int, 2) := by decide +kernel
theorem dX0_init_65 : decode cX0_init 65 = .ok (.putfield 33, 3) := by decide +kernel
theorem dX0_init_68 : decode cX0_init 68 = .ok (.aload_n 0, 1) := by decide +kernel
theorem dX0_init_69 : decode cX0_init 69 = .ok (.bipush 6, 2) := by decide +kernel
theorem dX0_init_71 : decode cX0_init 71 = .ok (.newarray .int, 2) := by decide +kernel
theorem dX0_init_73 : decode cX0_init 73 = .ok (.putfield 36, 3) := by decide +kernel
theorem dX0_init_76 : decode cX0_init 76 = .ok (.aload_n 0, 1) := by decide +kernel
theorem dX0_init_77 : decode cX0_init 77 = .ok (.bipush 6, 2) := by decide +kernel
theorem dX0_init_79 : decode cX0_init 79 = .ok (.newarray .int, 2) := by decide +kernel
theorem dX0_init_81 : decode cX0_init 81 = .ok (.putfield 39, 3) := by decide +kernel
theorem dX0_init_84 : decode cX0_init 84 = .ok (.aload_n 0, 1) := by decide +kernel
theorem dX0_init_85 : decode cX0_init 85 = .ok (.bipush 9, 2) := by decide +kernel
theorem dX0_init_87 : decode cX0_init 87 = .ok (.newarray .int, 2) := by decide +kernel
theorem dX0_init_89 : decode cX0_init 89 = .ok (.putfield 42, 3) := by decide +kernel
theorem dX0_init_92 : decode cX0_init 92 = .ok (.aload_n 0, 1) := by decide +kernel
theorem dX0_init_93 : decode cX0_init 93 = .ok (.iconst 3, 1) := by decide +kernel
theorem dX0_init_94 : decode cX0_init 94 = .ok (.newarray .int, 2) := by decide +kernel
theorem dX0_init_96 : decode cX0_init 96 = .ok (.putfield 45, 3) := by decide +kernel
theorem dX0_init_99 : decode cX0_init 99 = .ok (.iconst 0, 1) := by decide +kernel
theorem dX0_init_100 : decode cX0_init 100 = .ok (.istore_n 1, 1) := by decide +kernel
theorem dX0_init_101 : decode cX0_init 101 = .ok (.iload_n 1, 1) := by decide +kernel
theorem dX0_init_102 : decode cX0_init 102 = .ok (.bipush 48, 2) := by decide +kernel
theorem dX0_init_104 : decode cX0_init 104 = .ok (.if_icmp .ge 15, 3) := by decide +kernel
theorem dX0_init_107 : decode cX0_init 107 = .ok (.aload_n 0, 1) := by decide +kernel
theorem dX0_init_108 : decode cX0_init 108 = .ok (.iload_n 1, 1) := by decide +kernel
theorem dX0_init_109 : decode cX0_init 109 = .ok (.iconst 0, 1) := by decide +kernel
theorem dX0_init_110 : decode cX0_init 110 = .ok (.invokevirtual 48, 3) := by decide +kernel
theorem dX0_init_113 : decode cX0_init 113 = .ok (.iinc 1 1, 3) := by decide +kernel
theorem dX0_init_116 : decode cX0_init 116 = .ok (.goto (-15), 3) := by decide +kernel
theorem dX0_init_119 : decode cX0_init 119 = .ok (.iconst 0, 1) := by decide +kernel
theorem dX0_init_120 : decode cX0_init 120 = .ok (.istore_n 1, 1) := by decide +kernel
theorem dX0_init_121 : decode cX0_init 121 = .ok (.iload_n 1, 1) := by decide +kernel
theorem dX0_init_122 : decode cX0_init 122 = .ok (.bipush 6, 2) := by decide +kernel
theorem dX0_init_124 : decode cX0_init 124 = .ok (.if_icmp .ge 22, 3) := by decide +kernel
theorem dX0_init_127 : decode cX0_init 127 = .ok (.aload_n 0, 1) := by decide +kernel
theorem dX0_init_128 : decode cX0_init 128 = .ok (.iload_n 1, 1) := by decide +kernel
theorem dX0_init_129 : decode cX0_init 129 = .ok (.invokevirtual 52, 3) := by decide +kernel
theorem dX0_init_132 : decode cX0_init 132 = .ok (.aload_n 0, 1) := by decide +kernel
theorem dX0_init_133 : decode cX0_init 133 = .ok (.getfield 30, 3) := by decide +kernel
theorem dX0_init_136 : decode cX0_init 136 = .ok (.iload_n 1, 1) := by decide +kernel
theorem dX0_init_137 : decode cX0_init 137 = .ok (.bipush 20, 2) := by decide +kernel
theorem dX0_init_139 : decode cX0_init 139 = .ok (.iastore, 1) := by decide +kernel
theorem dX0_init_140 : decode cX0_init 140 = .ok (.iinc 1 1, 3) := by decide +kernel
theorem dX0_init_143 : decode cX0_init 143 = .ok (.goto (-22), 3) := by decide +kernel
theorem dX0_init_146 : decode cX0_init 146 = .ok (.aload_n 0, 1) := by decide +kernel
theorem dX0_init_147 : decode cX0_init 147 = .ok (.getfield 45, 3) := by decide +kernel
theorem dX0_init_150 : decode cX0_init 150 = .ok (.iconst 0, 1) := by decide +kernel
theorem dX0_init_151 : decode cX0_init 151 = .ok (.sipush 500, 3) := by decide +kernel
theorem dX0_init_154 : decode cX0_init 154 = .ok (.iastore, 1) := by decide +kernel
theorem dX0_init_155 : decode cX0_init 155 = .ok (.aload_n 0, 1) := by decide +kernel
theorem dX0_init_156 : decode cX0_init 156 = .ok (.getfield 45, 3) := by decide +kernel
theorem dX0_init_159 : decode cX0_init 159 = .ok (.iconst 1, 1) := by decide +kernel
theorem dX0_init_160 : decode cX0_init 160 = .ok (.bipush 40, 2) := by decide +kernel
theorem dX0_init_162 : decode cX0_init 162 = .ok (.iastore, 1) := by decide +kernel
theorem dX0_init_163 : decode cX0_init 163 = .ok (.return_, 1) := by decide +kernel
theorem dX0_copyFrom_0 : decode cX0_copyFrom 0 = .ok (.aload_n 1, 1) := by decide +kernel
theorem dX0_copyFrom_1 : decode cX0_copyFrom 1 = .ok (.getfield 9, 3) := by decide +kernel
theorem dX0_copyFrom_4 : decode cX0_copyFrom 4 = .ok (.iconst 0, 1) := by decide +kernel
theorem dX0_copyFrom_5 : decode cX0_copyFrom 5 = .ok (.aload_n 0, 1) := by decide +kernel
theorem dX0_copyFrom_6 : decode cX0_copyFrom 6 = .ok (.getfield 9, 3) := by decide +kernel
theorem dX0_copyFrom_9 : decode cX0_copyFrom 9 = .ok (.iconst 0, 1) := by decide +kernel
theorem dX0_copyFrom_10 : decode cX0_copyFrom 10 = .ok (.bipush 48, 2) := by decide +kernel
theorem dX0_copyFrom_12 : decode cX0_copyFrom 12 = .ok (.invokestatic 56, 3) := by decide +kernel
theorem dX0_copyFrom_15 : decode cX0_copyFrom 15 = .ok (.aload_n 1, 1) := by decide +kernel
theorem dX0_copyFrom_16 : decode cX0_copyFrom 16 = .ok (.getfield 15, 3) := by decide +kernel
theorem dX0_copyFrom_19 : decode cX0_copyFrom 19 = .ok (.iconst 0, 1) := by decide +kernel
theorem dX0_copyFrom_20 : decode cX0_copyFrom 20 = .ok (.aload_n 0, 1) := by decide +kernel
theorem dX0_copyFrom_21 : decode cX0_copyFrom 21 = .ok (.getfield 15, 3) := by decide +kernel
theorem dX0_copyFrom_24 : decode cX0_copyFrom 24 = .ok (.iconst 0, 1) := by decide +kernel
theorem dX0_copyFrom_25 : decode cX0_copyFrom 25 = .ok (.bipush 48, 2) := by decide +kernel
theorem dX0_copyFrom_27 : decode cX0_copyFrom 27 = .ok (.invokestatic 56, 3) := by decide +kernel
theorem dX0_copyFrom_30 : decode cX0_copyFrom 30 = .ok (.aload_n 1, 1) := by decide +kernel
theorem dX0_copyFrom_31 : decode cX0_copyFrom 31 = .ok (.getfield 18, 3) := by decide +kernel
theorem dX0_copyFrom_34 : decode cX0_copyFrom 34 = .ok (.iconst 0, 1) := by decide +kernel
theorem dX0_copyFrom_35 : decode cX0_copyFrom 35 = .ok (.aload_n 0, 1) := by decide +kernel
theorem dX0_copyFrom_36 : decode cX0_copyFrom 36 = .ok (.getfield 18, 3) := by decide +kernel
theorem dX0_copyFrom_39 : decode cX0_copyFrom 39 = .ok (.iconst 0, 1) := by decide +kernel
theorem dX0_copyFrom_40 : decode cX0_copyFrom 40 = .ok (.bipush 48, 2) := by decide +kernel
theorem dX0_copyFrom_42 : decode cX0_copyFrom 42 = .ok (.invokestatic 56, 3) := by decide +kernel
theorem dX0_copyFrom_45 : decode cX0_copyFrom 45 = .ok (.aload_n 1, 1) := by decide +kernel
theorem dX0_copyFrom_46 : decode cX0_copyFrom 46 = .ok (.getfield 21, 3) := by decide +kernel
theorem dX0_copyFrom_49 : decode cX0_copyFrom 49 = .ok (.iconst 0, 1) := by decide +kernel
theorem dX0_copyFrom_50 : decode cX0_copyFrom 50 = .ok (.aload_n 0, 1) := by decide +kernel
theorem dX0_copyFrom_51 : decode cX0_copyFrom 51 = .ok (.getfield 21, 3) := by decide +kernel
theorem dX0_copyFrom_54 : decode cX0_copyFrom 54 = .ok (.iconst 0, 1) := by decide +kernel
theorem dX0_copyFrom_55 : decode cX0_copyFrom 55 = .ok (.bipush 48, 2) := by decide +kernel
theorem dX0_copyFrom_57 : decode cX0_copyFrom 57 = .ok (.invokestatic 56, 3) := by decide +kernel
theorem dX0_copyFrom_60 : decode cX0_copyFrom 60 = .ok (.aload_n 1, 1) := by decide +kernel
theorem dX0_copyFrom_61 : decode cX0_copyFrom 61 = .ok (.getfield 24, 3) := by decide +kernel
theorem dX0_copyFrom_64 : decode cX0_copyFrom 64 = .ok (.iconst 0, 1) := by decide +kernel
theorem dX0_copyFrom_65 : decode cX0_copyFrom 65 = .ok (.aload_n 0, 1) := by decide +kernel
theorem dX0_copyFrom_66 : decode cX0_copyFrom 66 = .ok (.getfield 24, 3) := by decide +kernel
theorem dX0_copyFrom_69 : decode cX0_copyFrom 69 = .ok (.iconst 0, 1) := by decide +kernel
theorem dX0_copyFrom_70 : decode cX0_copyFrom 70 = .ok (.bipush 18, 2) := by decide +kernel
theorem dX0_copyFrom_72 : decode cX0_copyFrom 72 = .ok (.invokestatic 56, 3) := by decide +kernel
theorem dX0_copyFrom_75 : decode cX0_copyFrom 75 = .ok (.aload_n 1, 1) := by decide +kernel
theorem dX0_copyFrom_76 : decode cX0_copyFrom 76 = .ok (.getfield 27, 3) := by decide +kernel
theorem dX0_copyFrom_79 : decode cX0_copyFrom 79 = .ok (.iconst 0, 1) := by decide +kernel
theorem dX0_copyFrom_80 : decode cX0_copyFrom 80 = .ok (.aload_n 0, 1) := by decide +kernel
theorem dX0_copyFrom_81 : decode cX0_copyFrom 81 = .ok (.getfield 27, 3) := by decide +kernel
theorem dX0_copyFrom_84 : decode cX0_copyFrom 84 = .ok (.iconst 0, 1) := by decide +kernel
theorem dX0_copyFrom_85 : decode cX0_copyFrom 85 = .ok (.bipush 18, 2) := by decide +kernel
theorem dX0_copyFrom_87 : decode cX0_copyFrom 87 = .ok (.invokestatic 56, 3) := by decide +kernel
theorem dX0_copyFrom_90 : decode cX0_copyFrom 90 = .ok (.aload_n 1, 1) := by decide +kernel
theorem dX0_copyFrom_91 : decode cX0_copyFrom 91 = .ok (.getfield 30, 3) := by decide +kernel
theorem dX0_copyFrom_94 : decode cX0_copyFrom 94 = .ok (.iconst 0, 1) := by decide +kernel
theorem dX0_copyFrom_95 : decode cX0_copyFrom 95 = .ok (.aload_n 0, 1) := by decide +kernel
theorem dX0_copyFrom_96 : decode cX0_copyFrom 96 = .ok (.getfield 30, 3) := by decide +kernel
theorem dX0_copyFrom_99 : decode cX0_copyFrom 99 = .ok (.iconst 0, 1) := by decide +kernel
theorem dX0_copyFrom_100 : decode cX0_copyFrom 100 = .ok (.bipush 6, 2) := by decide +kernel
theorem dX0_copyFrom_102 : decode cX0_copyFrom 102 = .ok (.invokestatic 56, 3) := by decide +kernel
theorem dX0_copyFrom_105 : decode cX0_copyFrom 105 = .ok (.aload_n 1, 1) := by decide +kernel
theorem dX0_copyFrom_106 : decode cX0_copyFrom 106 = .ok (.getfield 33, 3) := by decide +kernel
theorem dX0_copyFrom_109 : decode cX0_copyFrom 109 = .ok (.iconst 0, 1) := by decide +kernel
theorem dX0_copyFrom_110 : decode cX0_copyFrom 110 = .ok (.aload_n 0, 1) := by decide +kernel
theorem dX0_copyFrom_111 : decode cX0_copyFrom 111 = .ok (.getfield 33, 3) := by decide +kernel
theorem dX0_copyFrom_114 : decode cX0_copyFrom 114 = .ok (.iconst 0, 1) := by decide +kernel
theorem dX0_copyFrom_115 : decode cX0_copyFrom 115 = .ok (.bipush 6, 2) := by decide +kernel
theorem dX0_copyFrom_117 : decode cX0_copyFrom 117 = .ok (.invokestatic 56, 3) := by decide +kernel
theorem dX0_copyFrom_120 : decode cX0_copyFrom 120 = .ok (.aload_n 1, 1) := by decide +kernel
theorem dX0_copyFrom_121 : decode cX0_copyFrom 121 = .ok (.getfield 36, 3) := by decide +kernel
theorem dX0_copyFrom_124 : decode cX0_copyFrom 124 = .ok (.iconst 0, 1) := by decide +kernel
theorem dX0_copyFrom_125 : decode cX0_copyFrom 125 = .ok (.aload_n 0, 1) := by decide +kernel
theorem dX0_copyFrom_126 : decode cX0_copyFrom 126 = .ok (.getfield 36, 3) := by decide +kernel
theorem dX0_copyFrom_129 : decode cX0_copyFrom 129 = .ok (.iconst 0, 1) := by decide +kernel
theorem dX0_copyFrom_130 : decode cX0_copyFrom 130 = .ok (.bipush 6, 2) := by decide +kernel
theorem dX0_copyFrom_132 : decode cX0_copyFrom 132 = .ok (.invokestatic 56, 3) := by decide +kernel
theorem dX0_copyFrom_135 : decode cX0_copyFrom 135 = .ok (.aload_n 1, 1) := by decide +kernel
theorem dX0_copyFrom_136 : decode cX0_copyFrom 136 = .ok (.getfield 39, 3) := by decide +kernel
theorem dX0_copyFrom_139 : decode cX0_copyFrom 139 = .ok (.iconst 0, 1) := by decide +kernel
theorem dX0_copyFrom_140 : decode cX0_copyFrom 140 = .ok (.aload_n 0, 1) := by decide +kernel
theorem dX0_copyFrom_141 : decode cX0_copyFrom 141 = .ok (.getfield 39, 3) := by decide +kernel
theorem dX0_copyFrom_144 : decode cX0_copyFrom 144 = .ok (.iconst 0, 1) := by decide +kernel
theorem dX0_copyFrom_145 : decode cX0_copyFrom 145 = .ok (.bipush 6, 2) := by decide +kernel
theorem dX0_copyFrom_147 : decode cX0_copyFrom 147 = .ok (.invokestatic 56, 3) := by decide +kernel
theorem dX0_copyFrom_150 : decode cX0_copyFrom 150 = .ok (.aload_n 1, 1) := by decide +kernel
theorem dX0_copyFrom_151 : decode cX0_copyFrom 151 = .ok (.getfield 42, 3) := by decide +kernel
theorem dX0_copyFrom_154 : decode cX0_copyFrom 154 = .ok (.iconst 0, 1) := by decide +kernel
theorem dX0_copyFrom_155 : decode cX0_copyFrom 155 = .ok (.aload_n 0, 1) := by decide +kernel
theorem dX0_copyFrom_156 : decode cX0_copyFrom 156 = .ok (.getfield 42, 3) := by decide +kernel
theorem dX0_copyFrom_159 : decode cX0_copyFrom 159 = .ok (.iconst 0, 1) := by decide +kernel
theorem dX0_copyFrom_160 : decode cX0_copyFrom 160 = .ok (.bipush 9, 2) := by decide +kernel
theorem dX0_copyFrom_162 : decode cX0_copyFrom 162 = .ok (.invokestatic 56, 3) := by decide +kernel
theorem dX0_copyFrom_165 : decode cX0_copyFrom 165 = .ok (.aload_n 1, 1) := by decide +kernel
theorem dX0_copyFrom_166 : decode cX0_copyFrom 166 = .ok (.getfield 45, 3) := by decide +kernel
theorem dX0_copyFrom_169 : decode cX0_copyFrom 169 = .ok (.iconst 0, 1) := by decide +kernel
theorem dX0_copyFrom_170 : decode cX0_copyFrom 170 = .ok (.aload_n 0, 1) := by decide +kernel
theorem dX0_copyFrom_171 : decode cX0_copyFrom 171 = .ok (.getfield 45, 3) := by decide +kernel
theorem dX0_copyFrom_174 : decode cX0_copyFrom 174 = .ok (.iconst 0, 1) := by decide +kernel
theorem dX0_copyFrom_175 : decode cX0_copyFrom 175 = .ok (.iconst 3, 1) := by decide +kernel
theorem dX0_copyFrom_176 : decode cX0_copyFrom 176 = .ok (.invokestatic 56, 3) := by decide +kernel
theorem dX0_copyFrom_179 : decode cX0_copyFrom 179 = .ok (.aload_n 0, 1) := by decide +kernel
theorem dX0_copyFrom_180 : decode cX0_copyFrom 180 = .ok (.aload_n 1, 1) := by decide +kernel
theorem dX0_copyFrom_181 : decode cX0_copyFrom 181 = .ok (.getfield 62, 3) := by decide +kernel
theorem dX0_copyFrom_184 : decode cX0_copyFrom 184 = .ok (.putfield 62, 3) := by decide +kernel
theorem dX0_copyFrom_187 : decode cX0_copyFrom 187 = .ok (.return_, 1) := by decide +kernel
theorem dX0_writeLevel_0 : decode cX0_writeLevel 0 = .ok (.iload_n 1, 1) := by decide +kernel
theorem dX0_writeLevel_1 : decode cX0_writeLevel 1 = .ok (.iload_n 2, 1) := by decide +kernel
theorem dX0_writeLevel_2 : decode cX0_writeLevel 2 = .ok (.invokestatic 66, 3) := by decide +kernel
theorem dX0_writeLevel_5 : decode cX0_writeLevel 5 = .ok (.ifCond .ne 12, 3) := by decide +kernel
theorem dX0_writeLevel_8 : decode cX0_writeLevel 8 = .ok (.iload_n 3, 1) := by decide +kernel
theorem dX0_writeLevel_9 : decode cX0_writeLevel 9 = .ok (.iconst 0, 1) := by decide +kernel
theorem dX0_writeLevel_10 : decode cX0_writeLevel 10 = .ok (.iconst 2, 1) := by decide +kernel
theorem dX0_writeLevel_11 : decode cX0_writeLevel 11 = .ok (.invokestatic 70, 3) := by decide +kernel
theorem dX0_writeLevel_14 : decode cX0_writeLevel 14 = .ok (.ifCond .eq 6, 3) := by decide +kernel
theorem dX0_writeLevel_17 : decode cX0_writeLevel 17 = .ok (.ldc 74, 2) := by decide +kernel
theorem dX0_writeLevel_19 : decode cX0_writeLevel 19 = .ok (.ireturn, 1) := by decide +kernel
theorem dX0_writeLevel_20 : decode cX0_writeLevel 20 = .ok (.bipush 8, 2) := by decide +kernel
theorem dX0_writeLevel_22 : decode cX0_writeLevel 22 = .ok (.iload_n 1, 1) := by decide +kernel
theorem dX0_writeLevel_23 : decode cX0_writeLevel 23 = .ok (.imul, 1) := by decide +kernel
theorem dX0_writeLevel_24 : decode cX0_writeLevel 24 = .ok (.iload_n 2, 1) := by decide +kernel
theorem dX0_writeLevel_25 : decode cX0_writeLevel 25 = .ok (.iadd, 1) := by decide +kernel
theorem dX0_writeLevel_26 : decode cX0_writeLevel 26 = .ok (.istore 4, 2) := by decide +kernel
theorem dX0_writeLevel_28 : decode cX0_writeLevel 28 = .ok (.aload_n 0, 1) := by decide +kernel
theorem dX0_writeLevel_29 : decode cX0_writeLevel 29 = .ok (.iload 4, 2) := by decide +kernel
theorem dX0_writeLevel_31 : decode cX0_writeLevel 31 = .ok (.iload_n 3, 1) := by decide +kernel
theorem dX0_writeLevel_32 : decode cX0_writeLevel 32 = .ok (.invokevirtual 48, 3) := by decide +kernel
theorem dX0_writeLevel_35 : decode cX0_writeLevel 35 = .ok (.aload_n 0, 1) := by decide +kernel
theorem dX0_writeLevel_36 : decode cX0_writeLevel 36 = .ok (.getfield 15, 3) := by decide +kernel
theorem dX0_writeLevel_39 : decode cX0_writeLevel 39 = .ok (.iload 4, 2) := by decide +kernel
theorem dX0_writeLevel_41 : decode cX0_writeLevel 41 = .ok (.iaload, 1) := by decide +kernel
theorem dX0_writeLevel_42 : decode cX0_writeLevel 42 = .ok (.ireturn, 1) := by decide +kernel
theorem dX0_writeWord_0 : decode cX0_writeWord 0 = .ok (.iload_n 1, 1) := by decide +kernel
theorem dX0_writeWord_1 : decode cX0_writeWord 1 = .ok (.iconst 0, 1) := by decide +kernel
theorem dX0_writeWord_2 : decode cX0_writeWord 2 = .ok (.iconst 5, 1) := by decide +kernel
theorem dX0_writeWord_3 : decode cX0_writeWord 3 = .ok (.invokestatic 70, 3) := by decide +kernel
theorem dX0_writeWord_6 : decode cX0_writeWord 6 = .ok (.ifCond .ne 14, 3) := by decide +kernel
theorem dX0_writeWord_9 : decode cX0_writeWord 9 = .ok (.iload_n 2, 1) := by decide +kernel
theorem dX0_writeWord_10 : decode cX0_writeWord 10 = .ok (.iconst 0, 1) := by decide +kernel
theorem dX0_writeWord_11 : decode cX0_writeWord 11 = .ok (.sipush 6560, 3) := by decide +kernel
theorem dX0_writeWord_14 : decode cX0_writeWord 14 = .ok (.invokestatic 70, 3) := by decide +kernel
theorem dX0_writeWord_17 : decode cX0_writeWord 17 = .ok (.ifCond .eq 6, 3) := by decide +kernel
theorem dX0_writeWord_20 : decode cX0_writeWord 20 = .ok (.ldc 74, 2) := by decide +kernel
theorem dX0_writeWord_22 : decode cX0_writeWord 22 = .ok (.ireturn, 1) := by decide +kernel
theorem dX0_writeWord_23 : decode cX0_writeWord 23 = .ok (.aload_n 0, 1) := by decide +kernel
theorem dX0_writeWord_24 : decode cX0_writeWord 24 = .ok (.iload_n 1, 1) := by decide +kernel
theorem dX0_writeWord_25 : decode cX0_writeWord 25 = .ok (.invokevirtual 75, 3) := by decide +kernel
theorem dX0_writeWord_28 : decode cX0_writeWord 28 = .ok (.istore_n 3, 1) := by decide +kernel
theorem dX0_writeWord_29 : decode cX0_writeWord 29 = .ok (.iload_n 2, 1) := by decide +kernel
theorem dX0_writeWord_30 : decode cX0_writeWord 30 = .ok (.istore 4, 2) := by decide +kernel
theorem dX0_writeWord_32 : decode cX0_writeWord 32 = .ok (.iconst 0, 1) := by decide +kernel
theorem dX0_writeWord_33 : decode cX0_writeWord 33 = .ok (.istore 5, 2) := by decide +kernel
theorem dX0_writeWord_35 : decode cX0_writeWord 35 = .ok (.iload 5, 2) := by decide +kernel
theorem dX0_writeWord_37 : decode cX0_writeWord 37 = .ok (.bipush 8, 2) := by decide +kernel
theorem dX0_writeWord_39 : decode cX0_writeWord 39 = .ok (.if_icmp .ge 30, 3) := by decide +kernel
theorem dX0_writeWord_42 : decode cX0_writeWord 42 = .ok (.aload_n 0, 1) := by decide +kernel
theorem dX0_writeWord_43 : decode cX0_writeWord 43 = .ok (.bipush 8, 2) := by decide +kernel
theorem dX0_writeWord_45 : decode cX0_writeWord 45 = .ok (.iload_n 1, 1) := by decide +kernel
theorem dX0_writeWord_46 : decode cX0_writeWord 46 = .ok (.imul, 1) := by decide +kernel
theorem dX0_writeWord_47 : decode cX0_writeWord 47 = .ok (.iload 5, 2) := by decide +kernel
theorem dX0_writeWord_49 : decode cX0_writeWord 49 = .ok (.iadd, 1) := by decide +kernel
theorem dX0_writeWord_50 : decode cX0_writeWord 50 = .ok (.iload 4, 2) := by decide +kernel
theorem dX0_writeWord_52 : decode cX0_writeWord 52 = .ok (.iconst 3, 1) := by decide +kernel
theorem dX0_writeWord_53 : decode cX0_writeWord 53 = .ok (.irem, 1) := by decide +kernel
theorem dX0_writeWord_54 : decode cX0_writeWord 54 = .ok (.invokevirtual 48, 3) := by decide +kernel
theorem dX0_writeWord_57 : decode cX0_writeWord 57 = .ok (.iload 4, 2) := by decide +kernel
theorem dX0_writeWord_59 : decode cX0_writeWord 59 = .ok (.iconst 3, 1) := by decide +kernel
theorem dX0_writeWord_60 : decode cX0_writeWord 60 = .ok (.idiv, 1) := by decide +kernel
theorem dX0_writeWord_61 : decode cX0_writeWord 61 = .ok (.istore 4, 2) := by decide +kernel
theorem dX0_writeWord_63 : decode cX0_writeWord 63 = .ok (.iinc 5 1, 3) := by decide +kernel
theorem dX0_writeWord_66 : decode cX0_writeWord 66 = .ok (.goto (-31), 3) := by decide +kernel
theorem dX0_writeWord_69 : decode cX0_writeWord 69 = .ok (.iload_n 3, 1) := by decide +kernel
theorem dX0_writeWord_70 : decode cX0_writeWord 70 = .ok (.ireturn, 1) := by decide +kernel
theorem dX0_writeAnew_0 : decode cX0_writeAnew 0 = .ok (.iload_n 1, 1) := by decide +kernel
theorem dX0_writeAnew_1 : decode cX0_writeAnew 1 = .ok (.iconst 0, 1) := by decide +kernel
theorem dX0_writeAnew_2 : decode cX0_writeAnew 2 = .ok (.iconst 5, 1) := by decide +kernel
theorem dX0_writeAnew_3 : decode cX0_writeAnew 3 = .ok (.invokestatic 70, 3) := by decide +kernel
theorem dX0_writeAnew_6 : decode cX0_writeAnew 6 = .ok (.ifCond .eq 6, 3) := by decide +kernel
theorem dX0_writeAnew_9 : decode cX0_writeAnew 9 = .ok (.ldc 74, 2) := by decide +kernel
theorem dX0_writeAnew_11 : decode cX0_writeAnew 11 = .ok (.ireturn, 1) := by decide +kernel
theorem dX0_writeAnew_12 : decode cX0_writeAnew 12 = .ok (.aload_n 0, 1) := by decide +kernel
theorem dX0_writeAnew_13 : decode cX0_writeAnew 13 = .ok (.iload_n 1, 1) := by decide +kernel
theorem dX0_writeAnew_14 : decode cX0_writeAnew 14 = .ok (.iconst 0, 1) := by decide +kernel
theorem dX0_writeAnew_15 : decode cX0_writeAnew 15 = .ok (.invokevirtual 79, 3) := by decide +kernel
theorem dX0_writeAnew_18 : decode cX0_writeAnew 18 = .ok (.istore_n 2, 1) := by decide +kernel
theorem dX0_writeAnew_19 : decode cX0_writeAnew 19 = .ok (.aload_n 0, 1) := by decide +kernel
theorem dX0_writeAnew_20 : decode cX0_writeAnew 20 = .ok (.iload_n 1, 1) := by decide +kernel
theorem dX0_writeAnew_21 : decode cX0_writeAnew 21 = .ok (.iconst 1, 1) := by decide +kernel
theorem dX0_writeAnew_22 : decode cX0_writeAnew 22 = .ok (.invokevirtual 79, 3) := by decide +kernel
theorem dX0_writeAnew_25 : decode cX0_writeAnew 25 = .ok (.istore_n 3, 1) := by decide +kernel
theorem dX0_writeAnew_26 : decode cX0_writeAnew 26 = .ok (.iconst 0, 1) := by decide +kernel
theorem dX0_writeAnew_27 : decode cX0_writeAnew 27 = .ok (.istore 4, 2) := by decide +kernel
theorem dX0_writeAnew_29 : decode cX0_writeAnew 29 = .ok (.iconst 0, 1) := by decide +kernel
theorem dX0_writeAnew_30 : decode cX0_writeAnew 30 = .ok (.istore 5, 2) := by decide +kernel
theorem dX0_writeAnew_32 : decode cX0_writeAnew 32 = .ok (.iload 5, 2) := by decide +kernel
theorem dX0_writeAnew_34 : decode cX0_writeAnew 34 = .ok (.bipush 8, 2) := by decide +kernel
theorem dX0_writeAnew_36 : decode cX0_writeAnew 36 = .ok (.if_icmp .ge 55, 3) := by decide +kernel
theorem dX0_writeAnew_39 : decode cX0_writeAnew 39 = .ok (.bipush 8, 2) := by decide +kernel
theorem dX0_writeAnew_41 : decode cX0_writeAnew 41 = .ok (.iload_n 1, 1) := by decide +kernel
theorem dX0_writeAnew_42 : decode cX0_writeAnew 42 = .ok (.imul, 1) := by decide +kernel
theorem dX0_writeAnew_43 : decode cX0_writeAnew 43 = .ok (.iload 5, 2) := by decide +kernel
theorem dX0_writeAnew_45 : decode cX0_writeAnew 45 = .ok (.iadd, 1) := by decide +kernel
theorem dX0_writeAnew_46 : decode cX0_writeAnew 46 = .ok (.istore 6, 2) := by decide +kernel
theorem dX0_writeAnew_48 : decode cX0_writeAnew 48 = .ok (.aload_n 0, 1) := by decide +kernel
theorem dX0_writeAnew_49 : decode cX0_writeAnew 49 = .ok (.getfield 15, 3) := by decide +kernel
theorem dX0_writeAnew_52 : decode cX0_writeAnew 52 = .ok (.iload 6, 2) := by decide +kernel
theorem dX0_writeAnew_54 : decode cX0_writeAnew 54 = .ok (.iaload, 1) := by decide +kernel
theorem dX0_writeAnew_55 : decode cX0_writeAnew 55 = .ok (.iload_n 2, 1) := by decide +kernel
theorem dX0_writeAnew_56 : decode cX0_writeAnew 56 = .ok (.iload_n 3, 1) := by decide +kernel
theorem dX0_writeAnew_57 : decode cX0_writeAnew 57 = .ok (.invokestatic 83, 3) := by decide +kernel
theorem dX0_writeAnew_60 : decode cX0_writeAnew 60 = .ok (.istore 7, 2) := by decide +kernel
theorem dX0_writeAnew_62 : decode cX0_writeAnew 62 = .ok (.iload 7, 2) := by decide +kernel
theorem dX0_writeAnew_64 : decode cX0_writeAnew 64 = .ok (.aload_n 0, 1) := by decide +kernel
theorem dX0_writeAnew_65 : decode cX0_writeAnew 65 = .ok (.getfield 9, 3) := by decide +kernel
theorem dX0_writeAnew_68 : decode cX0_writeAnew 68 = .ok (.iload 6, 2) := by decide +kernel
theorem dX0_writeAnew_70 : decode cX0_writeAnew 70 = .ok (.iaload, 1) := by decide +kernel
theorem dX0_writeAnew_71 : decode cX0_writeAnew 71 = .ok (.if_icmp .eq 6, 3) := by decide +kernel
theorem dX0_writeAnew_74 : decode cX0_writeAnew 74 = .ok (.iinc 4 1, 3) := by decide +kernel
theorem dX0_writeAnew_77 : decode cX0_writeAnew 77 = .ok (.aload_n 0, 1) := by decide +kernel
theorem dX0_writeAnew_78 : decode cX0_writeAnew 78 = .ok (.iload 6, 2) := by decide +kernel
theorem dX0_writeAnew_80 : decode cX0_writeAnew 80 = .ok (.iload 7, 2) := by decide +kernel
theorem dX0_writeAnew_82 : decode cX0_writeAnew 82 = .ok (.invokevirtual 48, 3) := by decide +kernel
theorem dX0_writeAnew_85 : decode cX0_writeAnew 85 = .ok (.iinc 5 1, 3) := by decide +kernel
theorem dX0_writeAnew_88 : decode cX0_writeAnew 88 = .ok (.goto (-56), 3) := by decide +kernel
theorem dX0_writeAnew_91 : decode cX0_writeAnew 91 = .ok (.aload_n 0, 1) := by decide +kernel
theorem dX0_writeAnew_92 : decode cX0_writeAnew 92 = .ok (.iload_n 1, 1) := by decide +kernel
theorem dX0_writeAnew_93 : decode cX0_writeAnew 93 = .ok (.invokevirtual 52, 3) := by decide +kernel
theorem dX0_writeAnew_96 : decode cX0_writeAnew 96 = .ok (.aload_n 0, 1) := by decide +kernel
theorem dX0_writeAnew_97 : decode cX0_writeAnew 97 = .ok (.getfield 36, 3) := by decide +kernel
theorem dX0_writeAnew_100 : decode cX0_writeAnew 100 = .ok (.iload_n 1, 1) := by decide +kernel
theorem dX0_writeAnew_101 : decode cX0_writeAnew 101 = .ok (.dup2, 1) := by decide +kernel
theorem dX0_writeAnew_102 : decode cX0_writeAnew 102 = .ok (.iaload, 1) := by decide +kernel
theorem dX0_writeAnew_103 : decode cX0_writeAnew 103 = .ok (.iload 4, 2) := by decide +kernel
theorem dX0_writeAnew_105 : decode cX0_writeAnew 105 = .ok (.iadd, 1) := by decide +kernel
theorem dX0_writeAnew_106 : decode cX0_writeAnew 106 = .ok (.iastore, 1) := by decide +kernel
theorem dX0_writeAnew_107 : decode cX0_writeAnew 107 = .ok (.aload_n 0, 1) := by decide +kernel
theorem dX0_writeAnew_108 : decode cX0_writeAnew 108 = .ok (.getfield 39, 3) := by decide +kernel
theorem dX0_writeAnew_111 : decode cX0_writeAnew 111 = .ok (.iload_n 1, 1) := by decide +kernel
theorem dX0_writeAnew_112 : decode cX0_writeAnew 112 = .ok (.dup2, 1) := by decide +kernel
theorem dX0_writeAnew_113 : decode cX0_writeAnew 113 = .ok (.iaload, 1) := by decide +kernel
theorem dX0_writeAnew_114 : decode cX0_writeAnew 114 = .ok (.iconst 1, 1) := by decide +kernel
theorem dX0_writeAnew_115 : decode cX0_writeAnew 115 = .ok (.iadd, 1) := by decide +kernel
theorem dX0_writeAnew_116 : decode cX0_writeAnew 116 = .ok (.iastore, 1) := by decide +kernel
theorem dX0_writeAnew_117 : decode cX0_writeAnew 117 = .ok (.iload 4, 2) := by decide +kernel
theorem dX0_writeAnew_119 : decode cX0_writeAnew 119 = .ok (.ireturn, 1) := by decide +kernel
theorem dX0_askCell_0 : decode cX0_askCell 0 = .ok (.iload_n 1, 1) := by decide +kernel
theorem dX0_askCell_1 : decode cX0_askCell 1 = .ok (.iload_n 2, 1) := by decide +kernel
theorem dX0_askCell_2 : decode cX0_askCell 2 = .ok (.invokestatic 66, 3) := by decide +kernel
theorem dX0_askCell_5 : decode cX0_askCell 5 = .ok (.ifCond .eq 6, 3) := by decide +kernel
theorem dX0_askCell_8 : decode cX0_askCell 8 = .ok (.ldc 74, 2) := by decide +kernel
theorem dX0_askCell_10 : decode cX0_askCell 10 = .ok (.ireturn, 1) := by decide +kernel
theorem dX0_askCell_11 : decode cX0_askCell 11 = .ok (.bipush 8, 2) := by decide +kernel
theorem dX0_askCell_13 : decode cX0_askCell 13 = .ok (.iload_n 1, 1) := by decide +kernel
theorem dX0_askCell_14 : decode cX0_askCell 14 = .ok (.imul, 1) := by decide +kernel
theorem dX0_askCell_15 : decode cX0_askCell 15 = .ok (.iload_n 2, 1) := by decide +kernel
theorem dX0_askCell_16 : decode cX0_askCell 16 = .ok (.iadd, 1) := by decide +kernel
theorem dX0_askCell_17 : decode cX0_askCell 17 = .ok (.istore_n 3, 1) := by decide +kernel
theorem dX0_askCell_18 : decode cX0_askCell 18 = .ok (.aload_n 0, 1) := by decide +kernel
theorem dX0_askCell_19 : decode cX0_askCell 19 = .ok (.getfield 15, 3) := by decide +kernel
theorem dX0_askCell_22 : decode cX0_askCell 22 = .ok (.iload_n 3, 1) := by decide +kernel
theorem dX0_askCell_23 : decode cX0_askCell 23 = .ok (.iaload, 1) := by decide +kernel
theorem dX0_askCell_24 : decode cX0_askCell 24 = .ok (.aload_n 0, 1) := by decide +kernel
theorem dX0_askCell_25 : decode cX0_askCell 25 = .ok (.iload_n 1, 1) := by decide +kernel
theorem dX0_askCell_26 : decode cX0_askCell 26 = .ok (.iconst 0, 1) := by decide +kernel
theorem dX0_askCell_27 : decode cX0_askCell 27 = .ok (.invokevirtual 79, 3) := by decide +kernel
theorem dX0_askCell_30 : decode cX0_askCell 30 = .ok (.aload_n 0, 1) := by decide +kernel
theorem dX0_askCell_31 : decode cX0_askCell 31 = .ok (.iload_n 1, 1) := by decide +kernel
theorem dX0_askCell_32 : decode cX0_askCell 32 = .ok (.iconst 1, 1) := by decide +kernel
theorem dX0_askCell_33 : decode cX0_askCell 33 = .ok (.invokevirtual 79, 3) := by decide +kernel
theorem dX0_askCell_36 : decode cX0_askCell 36 = .ok (.invokestatic 83, 3) := by decide +kernel
theorem dX0_askCell_39 : decode cX0_askCell 39 = .ok (.istore 4, 2) := by decide +kernel
theorem dX0_askCell_41 : decode cX0_askCell 41 = .ok (.aload_n 0, 1) := by decide +kernel
theorem dX0_askCell_42 : decode cX0_askCell 42 = .ok (.getfield 42, 3) := by decide +kernel
theorem dX0_askCell_45 : decode cX0_askCell 45 = .ok (.iconst 3, 1) := by decide +kernel
theorem dX0_askCell_46 : decode cX0_askCell 46 = .ok (.aload_n 0, 1) := by decide +kernel
theorem dX0_askCell_47 : decode cX0_askCell 47 = .ok (.getfield 9, 3) := by decide +kernel
theorem dX0_askCell_50 : decode cX0_askCell 50 = .ok (.iload_n 3, 1) := by decide +kernel
theorem dX0_askCell_51 : decode cX0_askCell 51 = .ok (.iaload, 1) := by decide +kernel
theorem dX0_askCell_52 : decode cX0_askCell 52 = .ok (.imul, 1) := by decide +kernel
theorem dX0_askCell_53 : decode cX0_askCell 53 = .ok (.iload 4, 2) := by decide +kernel
theorem dX0_askCell_55 : decode cX0_askCell 55 = .ok (.iadd, 1) := by decide +kernel
theorem dX0_askCell_56 : decode cX0_askCell 56 = .ok (.dup2, 1) := by decide +kernel
theorem dX0_askCell_57 : decode cX0_askCell 57 = .ok (.iaload, 1) := by decide +kernel
theorem dX0_askCell_58 : decode cX0_askCell 58 = .ok (.iconst 1, 1) := by decide +kernel
theorem dX0_askCell_59 : decode cX0_askCell 59 = .ok (.iadd, 1) := by decide +kernel
theorem dX0_askCell_60 : decode cX0_askCell 60 = .ok (.iastore, 1) := by decide +kernel
theorem dX0_askCell_61 : decode cX0_askCell 61 = .ok (.iload 4, 2) := by decide +kernel
theorem dX0_askCell_63 : decode cX0_askCell 63 = .ok (.ireturn, 1) := by decide +kernel
theorem dX0_failGuard_0 : decode cX0_failGuard 0 = .ok (.iload_n 1, 1) := by decide +kernel
theorem dX0_failGuard_1 : decode cX0_failGuard 1 = .ok (.iload_n 2, 1) := by decide +kernel
theorem dX0_failGuard_2 : decode cX0_failGuard 2 = .ok (.invokestatic 87, 3) := by decide +kernel
theorem dX0_failGuard_5 : decode cX0_failGuard 5 = .ok (.ifCond .ne 14, 3) := by decide +kernel
theorem dX0_failGuard_8 : decode cX0_failGuard 8 = .ok (.iload_n 3, 1) := by decide +kernel
theorem dX0_failGuard_9 : decode cX0_failGuard 9 = .ok (.iconst 0, 1) := by decide +kernel
theorem dX0_failGuard_10 : decode cX0_failGuard 10 = .ok (.sipush 999, 3) := by decide +kernel
theorem dX0_failGuard_13 : decode cX0_failGuard 13 = .ok (.invokestatic 70, 3) := by decide +kernel
theorem dX0_failGuard_16 : decode cX0_failGuard 16 = .ok (.ifCond .eq 6, 3) := by decide +kernel
theorem dX0_failGuard_19 : decode cX0_failGuard 19 = .ok (.ldc 74, 2) := by decide +kernel
theorem dX0_failGuard_21 : decode cX0_failGuard 21 = .ok (.ireturn, 1) := by decide +kernel
theorem dX0_failGuard_22 : decode cX0_failGuard 22 = .ok (.iconst 3, 1) := by decide +kernel
theorem dX0_failGuard_23 : decode cX0_failGuard 23 = .ok (.iload_n 1, 1) := by decide +kernel
theorem dX0_failGuard_24 : decode cX0_failGuard 24 = .ok (.imul, 1) := by decide +kernel
theorem dX0_failGuard_25 : decode cX0_failGuard 25 = .ok (.iload_n 2, 1) := by decide +kernel
theorem dX0_failGuard_26 : decode cX0_failGuard 26 = .ok (.iadd, 1) := by decide +kernel
theorem dX0_failGuard_27 : decode cX0_failGuard 27 = .ok (.istore 4, 2) := by decide +kernel
theorem dX0_failGuard_29 : decode cX0_failGuard 29 = .ok (.aload_n 0, 1) := by decide +kernel
theorem dX0_failGuard_30 : decode cX0_failGuard 30 = .ok (.getfield 27, 3) := by decide +kernel
theorem dX0_failGuard_33 : decode cX0_failGuard 33 = .ok (.iload 4, 2) := by decide +kernel
theorem dX0_failGuard_35 : decode cX0_failGuard 35 = .ok (.iaload, 1) := by decide +kernel
theorem dX0_failGuard_36 : decode cX0_failGuard 36 = .ok (.iconst 1, 1) := by decide +kernel
theorem dX0_failGuard_37 : decode cX0_failGuard 37 = .ok (.if_icmp .ne 6, 3) := by decide +kernel
theorem dX0_failGuard_40 : decode cX0_failGuard 40 = .ok (.ldc 90, 2) := by decide +kernel
theorem dX0_failGuard_42 : decode cX0_failGuard 42 = .ok (.ireturn, 1) := by decide +kernel
theorem dX0_failGuard_43 : decode cX0_failGuard 43 = .ok (.aload_n 0, 1) := by decide +kernel
theorem dX0_failGuard_44 : decode cX0_failGuard 44 = .ok (.getfield 24, 3) := by decide +kernel
theorem dX0_failGuard_47 : decode cX0_failGuard 47 = .ok (.iload 4, 2) := by decide +kernel
theorem dX0_failGuard_49 : decode cX0_failGuard 49 = .ok (.iaload, 1) := by decide +kernel
theorem dX0_failGuard_50 : decode cX0_failGuard 50 = .ok (.istore 5, 2) := by decide +kernel
theorem dX0_failGuard_52 : decode cX0_failGuard 52 = .ok (.aload_n 0, 1) := by decide +kernel
theorem dX0_failGuard_53 : decode cX0_failGuard 53 = .ok (.getfield 27, 3) := by decide +kernel
theorem dX0_failGuard_56 : decode cX0_failGuard 56 = .ok (.iload 4, 2) := by decide +kernel
theorem dX0_failGuard_58 : decode cX0_failGuard 58 = .ok (.iconst 1, 1) := by decide +kernel
theorem dX0_failGuard_59 : decode cX0_failGuard 59 = .ok (.iastore, 1) := by decide +kernel
theorem dX0_failGuard_60 : decode cX0_failGuard 60 = .ok (.aload_n 0, 1) := by decide +kernel
theorem dX0_failGuard_61 : decode cX0_failGuard 61 = .ok (.getfield 24, 3) := by decide +kernel
theorem dX0_failGuard_64 : decode cX0_failGuard 64 = .ok (.iload 4, 2) := by decide +kernel
theorem dX0_failGuard_66 : decode cX0_failGuard 66 = .ok (.iload_n 3, 1) := by decide +kernel
theorem dX0_failGuard_67 : decode cX0_failGuard 67 = .ok (.iastore, 1) := by decide +kernel
theorem dX0_failGuard_68 : decode cX0_failGuard 68 = .ok (.iload 5, 2) := by decide +kernel
theorem dX0_failGuard_70 : decode cX0_failGuard 70 = .ok (.ireturn, 1) := by decide +kernel
theorem dX0_mendGuard_0 : decode cX0_mendGuard 0 = .ok (.iload_n 1, 1) := by decide +kernel
theorem dX0_mendGuard_1 : decode cX0_mendGuard 1 = .ok (.iload_n 2, 1) := by decide +kernel
theorem dX0_mendGuard_2 : decode cX0_mendGuard 2 = .ok (.invokestatic 87, 3) := by decide +kernel
theorem dX0_mendGuard_5 : decode cX0_mendGuard 5 = .ok (.ifCond .eq 6, 3) := by decide +kernel
theorem dX0_mendGuard_8 : decode cX0_mendGuard 8 = .ok (.ldc 74, 2) := by decide +kernel
theorem dX0_mendGuard_10 : decode cX0_mendGuard 10 = .ok (.ireturn, 1) := by decide +kernel
theorem dX0_mendGuard_11 : decode cX0_mendGuard 11 = .ok (.iconst 3, 1) := by decide +kernel
theorem dX0_mendGuard_12 : decode cX0_mendGuard 12 = .ok (.iload_n 1, 1) := by decide +kernel
theorem dX0_mendGuard_13 : decode cX0_mendGuard 13 = .ok (.imul, 1) := by decide +kernel
theorem dX0_mendGuard_14 : decode cX0_mendGuard 14 = .ok (.iload_n 2, 1) := by decide +kernel
theorem dX0_mendGuard_15 : decode cX0_mendGuard 15 = .ok (.iadd, 1) := by decide +kernel
theorem dX0_mendGuard_16 : decode cX0_mendGuard 16 = .ok (.istore_n 3, 1) := by decide +kernel
theorem dX0_mendGuard_17 : decode cX0_mendGuard 17 = .ok (.aload_n 0, 1) := by decide +kernel
theorem dX0_mendGuard_18 : decode cX0_mendGuard 18 = .ok (.getfield 27, 3) := by decide +kernel
theorem dX0_mendGuard_21 : decode cX0_mendGuard 21 = .ok (.iload_n 3, 1) := by decide +kernel
theorem dX0_mendGuard_22 : decode cX0_mendGuard 22 = .ok (.iaload, 1) := by decide +kernel
theorem dX0_mendGuard_23 : decode cX0_mendGuard 23 = .ok (.ifCond .ne 6, 3) := by decide +kernel
theorem dX0_mendGuard_26 : decode cX0_mendGuard 26 = .ok (.ldc 90, 2) := by decide +kernel
theorem dX0_mendGuard_28 : decode cX0_mendGuard 28 = .ok (.ireturn, 1) := by decide +kernel
theorem dX0_mendGuard_29 : decode cX0_mendGuard 29 = .ok (.aload_n 0, 1) := by decide +kernel
theorem dX0_mendGuard_30 : decode cX0_mendGuard 30 = .ok (.getfield 27, 3) := by decide +kernel
theorem dX0_mendGuard_33 : decode cX0_mendGuard 33 = .ok (.iload_n 3, 1) := by decide +kernel
theorem dX0_mendGuard_34 : decode cX0_mendGuard 34 = .ok (.iconst 0, 1) := by decide +kernel
theorem dX0_mendGuard_35 : decode cX0_mendGuard 35 = .ok (.iastore, 1) := by decide +kernel
theorem dX0_mendGuard_36 : decode cX0_mendGuard 36 = .ok (.aload_n 0, 1) := by decide +kernel
theorem dX0_mendGuard_37 : decode cX0_mendGuard 37 = .ok (.getfield 24, 3) := by decide +kernel
theorem dX0_mendGuard_40 : decode cX0_mendGuard 40 = .ok (.iload_n 3, 1) := by decide +kernel
theorem dX0_mendGuard_41 : decode cX0_mendGuard 41 = .ok (.iaload, 1) := by decide +kernel
theorem dX0_mendGuard_42 : decode cX0_mendGuard 42 = .ok (.ireturn, 1) := by decide +kernel
theorem dX0_changeRate_0 : decode cX0_changeRate 0 = .ok (.iload_n 1, 1) := by decide +kernel
theorem dX0_changeRate_1 : decode cX0_changeRate 1 = .ok (.iconst 0, 1) := by decide +kernel
theorem dX0_changeRate_2 : decode cX0_changeRate 2 = .ok (.iconst 5, 1) := by decide +kernel
theorem dX0_changeRate_3 : decode cX0_changeRate 3 = .ok (.invokestatic 70, 3) := by decide +kernel
theorem dX0_changeRate_6 : decode cX0_changeRate 6 = .ok (.ifCond .ne 14, 3) := by decide +kernel
theorem dX0_changeRate_9 : decode cX0_changeRate 9 = .ok (.iload_n 2, 1) := by decide +kernel
theorem dX0_changeRate_10 : decode cX0_changeRate 10 = .ok (.iconst 1, 1) := by decide +kernel
theorem dX0_changeRate_11 : decode cX0_changeRate 11 = .ok (.sipush 200, 3) := by decide +kernel
theorem dX0_changeRate_14 : decode cX0_changeRate 14 = .ok (.invokestatic 70, 3) := by decide +kernel
theorem dX0_changeRate_17 : decode cX0_changeRate 17 = .ok (.ifCond .eq 6, 3) := by decide +kernel
theorem dX0_changeRate_20 : decode cX0_changeRate 20 = .ok (.ldc 74, 2) := by decide +kernel
theorem dX0_changeRate_22 : decode cX0_changeRate 22 = .ok (.ireturn, 1) := by decide +kernel
theorem dX0_changeRate_23 : decode cX0_changeRate 23 = .ok (.aload_n 0, 1) := by decide +kernel
theorem dX0_changeRate_24 : decode cX0_changeRate 24 = .ok (.getfield 30, 3) := by decide +kernel
theorem dX0_changeRate_27 : decode cX0_changeRate 27 = .ok (.iload_n 1, 1) := by decide +kernel
theorem dX0_changeRate_28 : decode cX0_changeRate 28 = .ok (.iaload, 1) := by decide +kernel
theorem dX0_changeRate_29 : decode cX0_changeRate 29 = .ok (.istore_n 3, 1) := by decide +kernel
theorem dX0_changeRate_30 : decode cX0_changeRate 30 = .ok (.aload_n 0, 1) := by decide +kernel
theorem dX0_changeRate_31 : decode cX0_changeRate 31 = .ok (.getfield 30, 3) := by decide +kernel
theorem dX0_changeRate_34 : decode cX0_changeRate 34 = .ok (.iload_n 1, 1) := by decide +kernel
theorem dX0_changeRate_35 : decode cX0_changeRate 35 = .ok (.iload_n 2, 1) := by decide +kernel
theorem dX0_changeRate_36 : decode cX0_changeRate 36 = .ok (.iastore, 1) := by decide +kernel
theorem dX0_changeRate_37 : decode cX0_changeRate 37 = .ok (.iload_n 3, 1) := by decide +kernel
theorem dX0_changeRate_38 : decode cX0_changeRate 38 = .ok (.ireturn, 1) := by decide +kernel
theorem dX0_passDays_0 : decode cX0_passDays 0 = .ok (.iload_n 1, 1) := by decide +kernel
theorem dX0_passDays_1 : decode cX0_passDays 1 = .ok (.iconst 1, 1) := by decide +kernel
theorem dX0_passDays_2 : decode cX0_passDays 2 = .ok (.bipush 99, 2) := by decide +kernel
theorem dX0_passDays_4 : decode cX0_passDays 4 = .ok (.invokestatic 70, 3) := by decide +kernel
theorem dX0_passDays_7 : decode cX0_passDays 7 = .ok (.ifCond .eq 6, 3) := by decide +kernel
theorem dX0_passDays_10 : decode cX0_passDays 10 = .ok (.ldc 74, 2) := by decide +kernel
theorem dX0_passDays_12 : decode cX0_passDays 12 = .ok (.ireturn, 1) := by decide +kernel
theorem dX0_passDays_13 : decode cX0_passDays 13 = .ok (.aload_n 0, 1) := by decide +kernel
theorem dX0_passDays_14 : decode cX0_passDays 14 = .ok (.getfield 62, 3) := by decide +kernel
theorem dX0_passDays_17 : decode cX0_passDays 17 = .ok (.iload_n 2, 1) := by decide +kernel
theorem dX0_passDays_18 : decode cX0_passDays 18 = .ok (.iload_n 1, 1) := by decide +kernel
theorem dX0_passDays_19 : decode cX0_passDays 19 = .ok (.isub, 1) := by decide +kernel
theorem dX0_passDays_20 : decode cX0_passDays 20 = .ok (.if_icmp .le 6, 3) := by decide +kernel
theorem dX0_passDays_23 : decode cX0_passDays 23 = .ok (.ldc 91, 2) := by decide +kernel
theorem dX0_passDays_25 : decode cX0_passDays 25 = .ok (.ireturn, 1) := by decide +kernel
theorem dX0_passDays_26 : decode cX0_passDays 26 = .ok (.iconst 0, 1) := by decide +kernel
theorem dX0_passDays_27 : decode cX0_passDays 27 = .ok (.istore_n 3, 1) := by decide +kernel
theorem dX0_passDays_28 : decode cX0_passDays 28 = .ok (.iconst 0, 1) := by decide +kernel
theorem dX0_passDays_29 : decode cX0_passDays 29 = .ok (.istore 4, 2) := by decide +kernel
theorem dX0_passDays_31 : decode cX0_passDays 31 = .ok (.iload 4, 2) := by decide +kernel
theorem dX0_passDays_33 : decode cX0_passDays 33 = .ok (.iload_n 1, 1) := by decide +kernel
theorem dX0_passDays_34 : decode cX0_passDays 34 = .ok (.if_icmp .ge 72, 3) := by decide +kernel
theorem dX0_passDays_37 : decode cX0_passDays 37 = .ok (.aload_n 0, 1) := by decide +kernel
theorem dX0_passDays_38 : decode cX0_passDays 38 = .ok (.invokevirtual 92, 3) := by decide +kernel
theorem dX0_passDays_41 : decode cX0_passDays 41 = .ok (.aload_n 0, 1) := by decide +kernel
theorem dX0_passDays_42 : decode cX0_passDays 42 = .ok (.dup, 1) := by decide +kernel
theorem dX0_passDays_43 : decode cX0_passDays 43 = .ok (.getfield 62, 3) := by decide +kernel
theorem dX0_passDays_46 : decode cX0_passDays 46 = .ok (.iconst 1, 1) := by decide +kernel
theorem dX0_passDays_47 : decode cX0_passDays 47 = .ok (.iadd, 1) := by decide +kernel
theorem dX0_passDays_48 : decode cX0_passDays 48 = .ok (.putfield 62, 3) := by decide +kernel
theorem dX0_passDays_51 : decode cX0_passDays 51 = .ok (.iconst 0, 1) := by decide +kernel
theorem dX0_passDays_52 : decode cX0_passDays 52 = .ok (.istore 5, 2) := by decide +kernel
theorem dX0_passDays_54 : decode cX0_passDays 54 = .ok (.iload 5, 2) := by decide +kernel
theorem dX0_passDays_56 : decode cX0_passDays 56 = .ok (.bipush 6, 2) := by decide +kernel
theorem dX0_passDays_58 : decode cX0_passDays 58 = .ok (.if_icmp .ge 42, 3) := by decide +kernel
theorem dX0_passDays_61 : decode cX0_passDays 61 = .ok (.aload_n 0, 1) := by decide +kernel
theorem dX0_passDays_62 : decode cX0_passDays 62 = .ok (.getfield 45, 3) := by decide +kernel
theorem dX0_passDays_65 : decode cX0_passDays 65 = .ok (.iconst 2, 1) := by decide +kernel
theorem dX0_passDays_66 : decode cX0_passDays 66 = .ok (.iaload, 1) := by decide +kernel
theorem dX0_passDays_67 : decode cX0_passDays 67 = .ok (.ifCond .le 27, 3) := by decide +kernel
theorem dX0_passDays_70 : decode cX0_passDays 70 = .ok (.aload_n 0, 1) := by decide +kernel
theorem dX0_passDays_71 : decode cX0_passDays 71 = .ok (.iload 5, 2) := by decide +kernel
theorem dX0_passDays_73 : decode cX0_passDays 73 = .ok (.invokevirtual 95, 3) := by decide +kernel
theorem dX0_passDays_76 : decode cX0_passDays 76 = .ok (.aload_n 0, 1) := by decide +kernel
theorem dX0_passDays_77 : decode cX0_passDays 77 = .ok (.getfield 45, 3) := by decide +kernel
theorem dX0_passDays_80 : decode cX0_passDays 80 = .ok (.iconst 2, 1) := by decide +kernel
theorem dX0_passDays_81 : decode cX0_passDays 81 = .ok (.iaload, 1) := by decide +kernel
theorem dX0_passDays_82 : decode cX0_passDays 82 = .ok (.if_icmp .lt 12, 3) := by decide +kernel
theorem dX0_passDays_85 : decode cX0_passDays 85 = .ok (.iload_n 3, 1) := by decide +kernel
theorem dX0_passDays_86 : decode cX0_passDays 86 = .ok (.aload_n 0, 1) := by decide +kernel
theorem dX0_passDays_87 : decode cX0_passDays 87 = .ok (.iload 5, 2) := by decide +kernel
theorem dX0_passDays_89 : decode cX0_passDays 89 = .ok (.invokevirtual 98, 3) := by decide +kernel
theorem dX0_passDays_92 : decode cX0_passDays 92 = .ok (.iadd, 1) := by decide +kernel
theorem dX0_passDays_93 : decode cX0_passDays 93 = .ok (.istore_n 3, 1) := by decide +kernel
theorem dX0_passDays_94 : decode cX0_passDays 94 = .ok (.iinc 5 1, 3) := by decide +kernel
theorem dX0_passDays_97 : decode cX0_passDays 97 = .ok (.goto (-43), 3) := by decide +kernel
theorem dX0_passDays_100 : decode cX0_passDays 100 = .ok (.iinc 4 1, 3) := by decide +kernel
theorem dX0_passDays_103 : decode cX0_passDays 103 = .ok (.goto (-72), 3) := by decide +kernel
theorem dX0_passDays_106 : decode cX0_passDays 106 = .ok (.iload_n 3, 1) := by decide +kernel
theorem dX0_passDays_107 : decode cX0_passDays 107 = .ok (.ireturn, 1) := by decide +kernel
theorem dX0_changeSetting_0 : decode cX0_changeSetting 0 = .ok (.iload_n 1, 1) := by decide +kernel
theorem dX0_changeSetting_1 : decode cX0_changeSetting 1 = .ok (.iconst 0, 1) := by decide +kernel
theorem dX0_changeSetting_2 : decode cX0_changeSetting 2 = .ok (.iconst 2, 1) := by decide +kernel
theorem dX0_changeSetting_3 : decode cX0_changeSetting 3 = .ok (.invokestatic 70, 3) := by decide +kernel
theorem dX0_changeSetting_6 : decode cX0_changeSetting 6 = .ok (.ifCond .ne 11, 3) := by decide +kernel
theorem dX0_changeSetting_9 : decode cX0_changeSetting 9 = .ok (.iload_n 1, 1) := by decide +kernel
theorem dX0_changeSetting_10 : decode cX0_changeSetting 10 = .ok (.iload_n 2, 1) := by decide +kernel
theorem dX0_changeSetting_11 : decode cX0_changeSetting 11 = .ok (.invokestatic 101, 3) := by decide +kernel
theorem dX0_changeSetting_14 : decode cX0_changeSetting 14 = .ok (.ifCond .eq 6, 3) := by decide +kernel
theorem dX0_changeSetting_17 : decode cX0_changeSetting 17 = .ok (.ldc 74, 2) := by decide +kernel
theorem dX0_changeSetting_19 : decode cX0_changeSetting 19 = .ok (.ireturn, 1) := by decide +kernel
theorem dX0_changeSetting_20 : decode cX0_changeSetting 20 = .ok (.aload_n 0, 1) := by decide +kernel
theorem dX0_changeSetting_21 : decode cX0_changeSetting 21 = .ok (.getfield 45, 3) := by decide +kernel
theorem dX0_changeSetting_24 : decode cX0_changeSetting 24 = .ok (.iload_n 1, 1) := by decide +kernel
theorem dX0_changeSetting_25 : decode cX0_changeSetting 25 = .ok (.iaload, 1) := by decide +kernel
theorem dX0_changeSetting_26 : decode cX0_changeSetting 26 = .ok (.istore_n 3, 1) := by decide +kernel
theorem dX0_changeSetting_27 : decode cX0_changeSetting 27 = .ok (.aload_n 0, 1) := by decide +kernel
theorem dX0_changeSetting_28 : decode cX0_changeSetting 28 = .ok (.getfield 45, 3) := by decide +kernel
theorem dX0_changeSetting_31 : decode cX0_changeSetting 31 = .ok (.iload_n 1, 1) := by decide +kernel
theorem dX0_changeSetting_32 : decode cX0_changeSetting 32 = .ok (.iload_n 2, 1) := by decide +kernel
theorem dX0_changeSetting_33 : decode cX0_changeSetting 33 = .ok (.iastore, 1) := by decide +kernel
theorem dX0_changeSetting_34 : decode cX0_changeSetting 34 = .ok (.iload_n 3, 1) := by decide +kernel
theorem dX0_changeSetting_35 : decode cX0_changeSetting 35 = .ok (.ireturn, 1) := by decide +kernel
theorem dX0_numberOfCell_0 : decode cX0_numberOfCell 0 = .ok (.iload_n 1, 1) := by decide +kernel
theorem dX0_numberOfCell_1 : decode cX0_numberOfCell 1 = .ok (.iload_n 2, 1) := by decide +kernel
theorem dX0_numberOfCell_2 : decode cX0_numberOfCell 2 = .ok (.invokestatic 66, 3) := by decide +kernel
theorem dX0_numberOfCell_5 : decode cX0_numberOfCell 5 = .ok (.ifCond .eq 6, 3) := by decide +kernel
theorem dX0_numberOfCell_8 : decode cX0_numberOfCell 8 = .ok (.ldc 74, 2) := by decide +kernel
theorem dX0_numberOfCell_10 : decode cX0_numberOfCell 10 = .ok (.ireturn, 1) := by decide +kernel
theorem dX0_numberOfCell_11 : decode cX0_numberOfCell 11 = .ok (.bipush 8, 2) := by decide +kernel
theorem dX0_numberOfCell_13 : decode cX0_numberOfCell 13 = .ok (.iload_n 1, 1) := by decide +kernel
theorem dX0_numberOfCell_14 : decode cX0_numberOfCell 14 = .ok (.imul, 1) := by decide +kernel
theorem dX0_numberOfCell_15 : decode cX0_numberOfCell 15 = .ok (.iload_n 2, 1) := by decide +kernel
theorem dX0_numberOfCell_16 : decode cX0_numberOfCell 16 = .ok (.iadd, 1) := by decide +kernel
theorem dX0_numberOfCell_17 : decode cX0_numberOfCell 17 = .ok (.istore 4, 2) := by decide +kernel
theorem dX0_numberOfCell_19 : decode cX0_numberOfCell 19 = .ok (.aload_n 0, 1) := by decide +kernel
theorem dX0_numberOfCell_20 : decode cX0_numberOfCell 20 = .ok (.iload_n 1, 1) := by decide +kernel
theorem dX0_numberOfCell_21 : decode cX0_numberOfCell 21 = .ok (.iconst 0, 1) := by decide +kernel
theorem dX0_numberOfCell_22 : decode cX0_numberOfCell 22 = .ok (.invokevirtual 79, 3) := by decide +kernel
theorem dX0_numberOfCell_25 : decode cX0_numberOfCell 25 = .ok (.istore 5, 2) := by decide +kernel
theorem dX0_numberOfCell_27 : decode cX0_numberOfCell 27 = .ok (.aload_n 0, 1) := by decide +kernel
theorem dX0_numberOfCell_28 : decode cX0_numberOfCell 28 = .ok (.iload_n 1, 1) := by decide +kernel
theorem dX0_numberOfCell_29 : decode cX0_numberOfCell 29 = .ok (.iconst 1, 1) := by decide +kernel
theorem dX0_numberOfCell_30 : decode cX0_numberOfCell 30 = .ok (.invokevirtual 79, 3) := by decide +kernel
theorem dX0_numberOfCell_33 : decode cX0_numberOfCell 33 = .ok (.istore 6, 2) := by decide +kernel
theorem dX0_numberOfCell_35 : decode cX0_numberOfCell 35 = .ok (.iload_n 3, 1) := by decide +kernel
theorem dX0_numberOfCell_36 : decode cX0_numberOfCell 36 = .ok (.tableswitch 170 0 7 #[48, 56, 64, 79, 102, 119, 127, 157], 48) := by decide +kernel
theorem dX0_numberOfCell_84 : decode cX0_numberOfCell 84 = .ok (.aload_n 0, 1) := by decide +kernel
theorem dX0_numberOfCell_85 : decode cX0_numberOfCell 85 = .ok (.getfield 9, 3) := by decide +kernel
theorem dX0_numberOfCell_88 : decode cX0_numberOfCell 88 = .ok (.iload 4, 2) := by decide +kernel
theorem dX0_numberOfCell_90 : decode cX0_numberOfCell 90 = .ok (.iaload, 1) := by decide +kernel
theorem dX0_numberOfCell_91 : decode cX0_numberOfCell 91 = .ok (.ireturn, 1) := by decide +kernel
theorem dX0_numberOfCell_92 : decode cX0_numberOfCell 92 = .ok (.aload_n 0, 1) := by decide +kernel
theorem dX0_numberOfCell_93 : decode cX0_numberOfCell 93 = .ok (.getfield 15, 3) := by decide +kernel
theorem dX0_numberOfCell_96 : decode cX0_numberOfCell 96 = .ok (.iload 4, 2) := by decide +kernel
theorem dX0_numberOfCell_98 : decode cX0_numberOfCell 98 = .ok (.iaload, 1) := by decide +kernel
theorem dX0_numberOfCell_99 : decode cX0_numberOfCell 99 = .ok (.ireturn, 1) := by decide +kernel
theorem dX0_numberOfCell_100 : decode cX0_numberOfCell 100 = .ok (.aload_n 0, 1) := by decide +kernel
theorem dX0_numberOfCell_101 : decode cX0_numberOfCell 101 = .ok (.getfield 15, 3) := by decide +kernel
theorem dX0_numberOfCell_104 : decode cX0_numberOfCell 104 = .ok (.iload 4, 2) := by decide +kernel
theorem dX0_numberOfCell_106 : decode cX0_numberOfCell 106 = .ok (.iaload, 1) := by decide +kernel
theorem dX0_numberOfCell_107 : decode cX0_numberOfCell 107 = .ok (.iload 5, 2) := by decide +kernel
theorem dX0_numberOfCell_109 : decode cX0_numberOfCell 109 = .ok (.iload 6, 2) := by decide +kernel
theorem dX0_numberOfCell_111 : decode cX0_numberOfCell 111 = .ok (.invokestatic 83, 3) := by decide +kernel
theorem dX0_numberOfCell_114 : decode cX0_numberOfCell 114 = .ok (.ireturn, 1) := by decide +kernel
theorem dX0_numberOfCell_115 : decode cX0_numberOfCell 115 = .ok (.aload_n 0, 1) := by decide +kernel
theorem dX0_numberOfCell_116 : decode cX0_numberOfCell 116 = .ok (.getfield 15, 3) := by decide +kernel
theorem dX0_numberOfCell_119 : decode cX0_numberOfCell 119 = .ok (.iload 4, 2) := by decide +kernel
theorem dX0_numberOfCell_121 : decode cX0_numberOfCell 121 = .ok (.iaload, 1) := by decide +kernel
theorem dX0_numberOfCell_122 : decode cX0_numberOfCell 122 = .ok (.aload_n 0, 1) := by decide +kernel
theorem dX0_numberOfCell_123 : decode cX0_numberOfCell 123 = .ok (.iload_n 1, 1) := by decide +kernel
theorem dX0_numberOfCell_124 : decode cX0_numberOfCell 124 = .ok (.iconst 0, 1) := by decide +kernel
theorem dX0_numberOfCell_125 : decode cX0_numberOfCell 125 = .ok (.invokevirtual 104, 3) := by decide +kernel
theorem dX0_numberOfCell_128 : decode cX0_numberOfCell 128 = .ok (.aload_n 0, 1) := by decide +kernel
theorem dX0_numberOfCell_129 : decode cX0_numberOfCell 129 = .ok (.iload_n 1, 1) := by decide +kernel
theorem dX0_numberOfCell_130 : decode cX0_numberOfCell 130 = .ok (.iconst 1, 1) := by decide +kernel
theorem dX0_numberOfCell_131 : decode cX0_numberOfCell 131 = .ok (.invokevirtual 104, 3) := by decide +kernel
theorem dX0_numberOfCell_134 : decode cX0_numberOfCell 134 = .ok (.invokestatic 83, 3) := by decide +kernel
theorem dX0_numberOfCell_137 : decode cX0_numberOfCell 137 = .ok (.ireturn, 1) := by decide +kernel
theorem dX0_numberOfCell_138 : decode cX0_numberOfCell 138 = .ok (.aload_n 0, 1) := by decide +kernel
theorem dX0_numberOfCell_139 : decode cX0_numberOfCell 139 = .ok (.getfield 15, 3) := by decide +kernel
theorem dX0_numberOfCell_142 : decode cX0_numberOfCell 142 = .ok (.iload 4, 2) := by decide +kernel
theorem dX0_numberOfCell_144 : decode cX0_numberOfCell 144 = .ok (.iaload, 1) := by decide +kernel
theorem dX0_numberOfCell_145 : decode cX0_numberOfCell 145 = .ok (.sipush 300, 3) := by decide +kernel
theorem dX0_numberOfCell_148 : decode cX0_numberOfCell 148 = .ok (.sipush 700, 3) := by decide +kernel
theorem dX0_numberOfCell_151 : decode cX0_numberOfCell 151 = .ok (.invokestatic 83, 3) := by decide +kernel
theorem dX0_numberOfCell_154 : decode cX0_numberOfCell 154 = .ok (.ireturn, 1) := by decide +kernel
theorem dX0_numberOfCell_155 : decode cX0_numberOfCell 155 = .ok (.aload_n 0, 1) := by decide +kernel
theorem dX0_numberOfCell_156 : decode cX0_numberOfCell 156 = .ok (.getfield 18, 3) := by decide +kernel
theorem dX0_numberOfCell_159 : decode cX0_numberOfCell 159 = .ok (.iload 4, 2) := by decide +kernel
theorem dX0_numberOfCell_161 : decode cX0_numberOfCell 161 = .ok (.iaload, 1) := by decide +kernel
theorem dX0_numberOfCell_162 : decode cX0_numberOfCell 162 = .ok (.ireturn, 1) := by decide +kernel
theorem dX0_numberOfCell_163 : decode cX0_numberOfCell 163 = .ok (.aload_n 0, 1) := by decide +kernel
theorem dX0_numberOfCell_164 : decode cX0_numberOfCell 164 = .ok (.getfield 15, 3) := by decide +kernel
theorem dX0_numberOfCell_167 : decode cX0_numberOfCell 167 = .ok (.iload 4, 2) := by decide +kernel
theorem dX0_numberOfCell_169 : decode cX0_numberOfCell 169 = .ok (.iaload, 1) := by decide +kernel
theorem dX0_numberOfCell_170 : decode cX0_numberOfCell 170 = .ok (.iload 5, 2) := by decide +kernel
theorem dX0_numberOfCell_172 : decode cX0_numberOfCell 172 = .ok (.isub, 1) := by decide +kernel
theorem dX0_numberOfCell_173 : decode cX0_numberOfCell 173 = .ok (.invokestatic 107, 3) := by decide +kernel
theorem dX0_numberOfCell_176 : decode cX0_numberOfCell 176 = .ok (.aload_n 0, 1) := by decide +kernel
theorem dX0_numberOfCell_177 : decode cX0_numberOfCell 177 = .ok (.getfield 15, 3) := by decide +kernel
theorem dX0_numberOfCell_180 : decode cX0_numberOfCell 180 = .ok (.iload 4, 2) := by decide +kernel
theorem dX0_numberOfCell_182 : decode cX0_numberOfCell 182 = .ok (.iaload, 1) := by decide +kernel
theorem dX0_numberOfCell_183 : decode cX0_numberOfCell 183 = .ok (.iload 6, 2) := by decide +kernel
theorem dX0_numberOfCell_185 : decode cX0_numberOfCell 185 = .ok (.isub, 1) := by decide +kernel
theorem dX0_numberOfCell_186 : decode cX0_numberOfCell 186 = .ok (.invokestatic 107, 3) := by decide +kernel
theorem dX0_numberOfCell_189 : decode cX0_numberOfCell 189 = .ok (.invokestatic 112, 3) := by decide +kernel
theorem dX0_numberOfCell_192 : decode cX0_numberOfCell 192 = .ok (.ireturn, 1) := by decide +kernel
theorem dX0_numberOfCell_193 : decode cX0_numberOfCell 193 = .ok (.aload_n 0, 1) := by decide +kernel
theorem dX0_numberOfCell_194 : decode cX0_numberOfCell 194 = .ok (.getfield 62, 3) := by decide +kernel
theorem dX0_numberOfCell_197 : decode cX0_numberOfCell 197 = .ok (.aload_n 0, 1) := by decide +kernel
theorem dX0_numberOfCell_198 : decode cX0_numberOfCell 198 = .ok (.getfield 21, 3) := by decide +kernel
theorem dX0_numberOfCell_201 : decode cX0_numberOfCell 201 = .ok (.iload 4, 2) := by decide +kernel
theorem dX0_numberOfCell_203 : decode cX0_numberOfCell 203 = .ok (.iaload, 1) := by decide +kernel
theorem dX0_numberOfCell_204 : decode cX0_numberOfCell 204 = .ok (.isub, 1) := by decide +kernel
theorem dX0_numberOfCell_205 : decode cX0_numberOfCell 205 = .ok (.ireturn, 1) := by decide +kernel
theorem dX0_numberOfCell_206 : decode cX0_numberOfCell 206 = .ok (.ldc 74, 2) := by decide +kernel
theorem dX0_numberOfCell_208 : decode cX0_numberOfCell 208 = .ok (.ireturn, 1) := by decide +kernel
theorem dX0_numberOfGuard_0 : decode cX0_numberOfGuard 0 = .ok (.iload_n 1, 1) := by decide +kernel
theorem dX0_numberOfGuard_1 : decode cX0_numberOfGuard 1 = .ok (.iload_n 2, 1) := by decide +kernel
theorem dX0_numberOfGuard_2 : decode cX0_numberOfGuard 2 = .ok (.invokestatic 87, 3) := by decide +kernel
theorem dX0_numberOfGuard_5 : decode cX0_numberOfGuard 5 = .ok (.ifCond .eq 6, 3) := by decide +kernel
theorem dX0_numberOfGuard_8 : decode cX0_numberOfGuard 8 = .ok (.ldc 74, 2) := by decide +kernel
theorem dX0_numberOfGuard_10 : decode cX0_numberOfGuard 10 = .ok (.ireturn, 1) := by decide +kernel
theorem dX0_numberOfGuard_11 : decode cX0_numberOfGuard 11 = .ok (.iconst 3, 1) := by decide +kernel
theorem dX0_numberOfGuard_12 : decode cX0_numberOfGuard 12 = .ok (.iload_n 1, 1) := by decide +kernel
theorem dX0_numberOfGuard_13 : decode cX0_numberOfGuard 13 = .ok (.imul, 1) := by decide +kernel
theorem dX0_numberOfGuard_14 : decode cX0_numberOfGuard 14 = .ok (.iload_n 2, 1) := by decide +kernel
theorem dX0_numberOfGuard_15 : decode cX0_numberOfGuard 15 = .ok (.iadd, 1) := by decide +kernel
theorem dX0_numberOfGuard_16 : decode cX0_numberOfGuard 16 = .ok (.istore 4, 2) := by decide +kernel
theorem dX0_numberOfGuard_18 : decode cX0_numberOfGuard 18 = .ok (.iload_n 3, 1) := by decide +kernel
theorem dX0_numberOfGuard_19 : decode cX0_numberOfGuard 19 = .ok (.lookupswitch 41 #[(0, 25), (1, 33)], 25) := by decide +kernel
theorem dX0_numberOfGuard_44 : decode cX0_numberOfGuard 44 = .ok (.aload_n 0, 1) := by decide +kernel
theorem dX0_numberOfGuard_45 : decode cX0_numberOfGuard 45 = .ok (.getfield 24, 3) := by decide +kernel
theorem dX0_numberOfGuard_48 : decode cX0_numberOfGuard 48 = .ok (.iload 4, 2) := by decide +kernel
theorem dX0_numberOfGuard_50 : decode cX0_numberOfGuard 50 = .ok (.iaload, 1) := by decide +kernel
theorem dX0_numberOfGuard_51 : decode cX0_numberOfGuard 51 = .ok (.ireturn, 1) := by decide +kernel
theorem dX0_numberOfGuard_52 : decode cX0_numberOfGuard 52 = .ok (.aload_n 0, 1) := by decide +kernel
theorem dX0_numberOfGuard_53 : decode cX0_numberOfGuard 53 = .ok (.getfield 27, 3) := by decide +kernel
theorem dX0_numberOfGuard_56 : decode cX0_numberOfGuard 56 = .ok (.iload 4, 2) := by decide +kernel
theorem dX0_numberOfGuard_58 : decode cX0_numberOfGuard 58 = .ok (.iaload, 1) := by decide +kernel
theorem dX0_numberOfGuard_59 : decode cX0_numberOfGuard 59 = .ok (.ireturn, 1) := by decide +kernel
theorem dX0_numberOfGuard_60 : decode cX0_numberOfGuard 60 = .ok (.ldc 74, 2) := by decide +kernel
theorem dX0_numberOfGuard_62 : decode cX0_numberOfGuard 62 = .ok (.ireturn, 1) := by decide +kernel
theorem dX0_numberOfRow_0 : decode cX0_numberOfRow 0 = .ok (.iload_n 1, 1) := by decide +kernel
theorem dX0_numberOfRow_1 : decode cX0_numberOfRow 1 = .ok (.iconst 0, 1) := by decide +kernel
theorem dX0_numberOfRow_2 : decode cX0_numberOfRow 2 = .ok (.iconst 5, 1) := by decide +kernel
theorem dX0_numberOfRow_3 : decode cX0_numberOfRow 3 = .ok (.invokestatic 70, 3) := by decide +kernel
theorem dX0_numberOfRow_6 : decode cX0_numberOfRow 6 = .ok (.ifCond .eq 6, 3) := by decide +kernel
theorem dX0_numberOfRow_9 : decode cX0_numberOfRow 9 = .ok (.ldc 74, 2) := by decide +kernel
theorem dX0_numberOfRow_11 : decode cX0_numberOfRow 11 = .ok (.ireturn, 1) := by decide +kernel
theorem dX0_numberOfRow_12 : decode cX0_numberOfRow 12 = .ok (.iload_n 2, 1) := by decide +kernel
theorem dX0_numberOfRow_13 : decode cX0_numberOfRow 13 = .ok (.tableswitch 176 0 13 #[71, 78, 85, 99, 105, 112, 119, 125, 137, 144, 150, 156, 162, 169], 71) := by decide +kernel
theorem dX0_numberOfRow_84 : decode cX0_numberOfRow 84 = .ok (.aload_n 0, 1) := by decide +kernel
theorem dX0_numberOfRow_85 : decode cX0_numberOfRow 85 = .ok (.iload_n 1, 1) := by decide +kernel
theorem dX0_numberOfRow_86 : decode cX0_numberOfRow 86 = .ok (.iconst 0, 1) := by decide +kernel
theorem dX0_numberOfRow_87 : decode cX0_numberOfRow 87 = .ok (.invokevirtual 104, 3) := by decide +kernel
theorem dX0_numberOfRow_90 : decode cX0_numberOfRow 90 = .ok (.ireturn, 1) := by decide +kernel
theorem dX0_numberOfRow_91 : decode cX0_numberOfRow 91 = .ok (.aload_n 0, 1) := by decide +kernel
theorem dX0_numberOfRow_92 : decode cX0_numberOfRow 92 = .ok (.iload_n 1, 1) := by decide +kernel
theorem dX0_numberOfRow_93 : decode cX0_numberOfRow 93 = .ok (.iconst 1, 1) := by decide +kernel
theorem dX0_numberOfRow_94 : decode cX0_numberOfRow 94 = .ok (.invokevirtual 104, 3) := by decide +kernel
theorem dX0_numberOfRow_97 : decode cX0_numberOfRow 97 = .ok (.ireturn, 1) := by decide +kernel
theorem dX0_numberOfRow_98 : decode cX0_numberOfRow 98 = .ok (.aload_n 0, 1) := by decide +kernel
theorem dX0_numberOfRow_99 : decode cX0_numberOfRow 99 = .ok (.iload_n 1, 1) := by decide +kernel
theorem dX0_numberOfRow_100 : decode cX0_numberOfRow 100 = .ok (.invokevirtual 115, 3) := by decide +kernel
theorem dX0_numberOfRow_103 : decode cX0_numberOfRow 103 = .ok (.ifCond .eq 7, 3) := by decide +kernel
theorem dX0_numberOfRow_106 : decode cX0_numberOfRow 106 = .ok (.iconst 1, 1) := by decide +kernel
theorem dX0_numberOfRow_107 : decode cX0_numberOfRow 107 = .ok (.goto 4, 3) := by decide +kernel
theorem dX0_numberOfRow_110 : decode cX0_numberOfRow 110 = .ok (.iconst 0, 1) := by decide +kernel
theorem dX0_numberOfRow_111 : decode cX0_numberOfRow 111 = .ok (.ireturn, 1) := by decide +kernel
theorem dX0_numberOfRow_112 : decode cX0_numberOfRow 112 = .ok (.aload_n 0, 1) := by decide +kernel
theorem dX0_numberOfRow_113 : decode cX0_numberOfRow 113 = .ok (.iload_n 1, 1) := by decide +kernel
theorem dX0_numberOfRow_114 : decode cX0_numberOfRow 114 = .ok (.invokevirtual 119, 3) := by decide +kernel
theorem dX0_numberOfRow_117 : decode cX0_numberOfRow 117 = .ok (.ireturn, 1) := by decide +kernel
theorem dX0_numberOfRow_118 : decode cX0_numberOfRow 118 = .ok (.aload_n 0, 1) := by decide +kernel
theorem dX0_numberOfRow_119 : decode cX0_numberOfRow 119 = .ok (.iload_n 1, 1) := by decide +kernel
theorem dX0_numberOfRow_120 : decode cX0_numberOfRow 120 = .ok (.iconst 0, 1) := by decide +kernel
theorem dX0_numberOfRow_121 : decode cX0_numberOfRow 121 = .ok (.invokevirtual 79, 3) := by decide +kernel
theorem dX0_numberOfRow_124 : decode cX0_numberOfRow 124 = .ok (.ireturn, 1) := by decide +kernel
theorem dX0_numberOfRow_125 : decode cX0_numberOfRow 125 = .ok (.aload_n 0, 1) := by decide +kernel
theorem dX0_numberOfRow_126 : decode cX0_numberOfRow 126 = .ok (.iload_n 1, 1) := by decide +kernel
theorem dX0_numberOfRow_127 : decode cX0_numberOfRow 127 = .ok (.iconst 1, 1) := by decide +kernel
theorem dX0_numberOfRow_128 : decode cX0_numberOfRow 128 = .ok (.invokevirtual 79, 3) := by decide +kernel
theorem dX0_numberOfRow_131 : decode cX0_numberOfRow 131 = .ok (.ireturn, 1) := by decide +kernel
theorem dX0_numberOfRow_132 : decode cX0_numberOfRow 132 = .ok (.aload_n 0, 1) := by decide +kernel
theorem dX0_numberOfRow_133 : decode cX0_numberOfRow 133 = .ok (.iload_n 1, 1) := by decide +kernel
theorem dX0_numberOfRow_134 : decode cX0_numberOfRow 134 = .ok (.invokevirtual 122, 3) := by decide +kernel
theorem dX0_numberOfRow_137 : decode cX0_numberOfRow 137 = .ok (.ireturn, 1) := by decide +kernel
theorem dX0_numberOfRow_138 : decode cX0_numberOfRow 138 = .ok (.aload_n 0, 1) := by decide +kernel
theorem dX0_numberOfRow_139 : decode cX0_numberOfRow 139 = .ok (.iload_n 1, 1) := by decide +kernel
theorem dX0_numberOfRow_140 : decode cX0_numberOfRow 140 = .ok (.sipush 300, 3) := by decide +kernel
theorem dX0_numberOfRow_143 : decode cX0_numberOfRow 143 = .ok (.sipush 700, 3) := by decide +kernel
theorem dX0_numberOfRow_146 : decode cX0_numberOfRow 146 = .ok (.invokevirtual 125, 3) := by decide +kernel
theorem dX0_numberOfRow_149 : decode cX0_numberOfRow 149 = .ok (.ireturn, 1) := by decide +kernel
theorem dX0_numberOfRow_150 : decode cX0_numberOfRow 150 = .ok (.aload_n 0, 1) := by decide +kernel
theorem dX0_numberOfRow_151 : decode cX0_numberOfRow 151 = .ok (.getfield 30, 3) := by decide +kernel
theorem dX0_numberOfRow_154 : decode cX0_numberOfRow 154 = .ok (.iload_n 1, 1) := by decide +kernel
theorem dX0_numberOfRow_155 : decode cX0_numberOfRow 155 = .ok (.iaload, 1) := by decide +kernel
theorem dX0_numberOfRow_156 : decode cX0_numberOfRow 156 = .ok (.ireturn, 1) := by decide +kernel
theorem dX0_numberOfRow_157 : decode cX0_numberOfRow 157 = .ok (.aload_n 0, 1) := by decide +kernel
theorem dX0_numberOfRow_158 : decode cX0_numberOfRow 158 = .ok (.iload_n 1, 1) := by decide +kernel
theorem dX0_numberOfRow_159 : decode cX0_numberOfRow 159 = .ok (.invokevirtual 95, 3) := by decide +kernel
theorem dX0_numberOfRow_162 : decode cX0_numberOfRow 162 = .ok (.ireturn, 1) := by decide +kernel
theorem dX0_numberOfRow_163 : decode cX0_numberOfRow 163 = .ok (.aload_n 0, 1) := by decide +kernel
theorem dX0_numberOfRow_164 : decode cX0_numberOfRow 164 = .ok (.iload_n 1, 1) := by decide +kernel
theorem dX0_numberOfRow_165 : decode cX0_numberOfRow 165 = .ok (.invokevirtual 75, 3) := by decide +kernel
theorem dX0_numberOfRow_168 : decode cX0_numberOfRow 168 = .ok (.ireturn, 1) := by decide +kernel
theorem dX0_numberOfRow_169 : decode cX0_numberOfRow 169 = .ok (.aload_n 0, 1) := by decide +kernel
theorem dX0_numberOfRow_170 : decode cX0_numberOfRow 170 = .ok (.iload_n 1, 1) := by decide +kernel
theorem dX0_numberOfRow_171 : decode cX0_numberOfRow 171 = .ok (.invokevirtual 128, 3) := by decide +kernel
theorem dX0_numberOfRow_174 : decode cX0_numberOfRow 174 = .ok (.ireturn, 1) := by decide +kernel
theorem dX0_numberOfRow_175 : decode cX0_numberOfRow 175 = .ok (.aload_n 0, 1) := by decide +kernel
theorem dX0_numberOfRow_176 : decode cX0_numberOfRow 176 = .ok (.getfield 36, 3) := by decide +kernel
theorem dX0_numberOfRow_179 : decode cX0_numberOfRow 179 = .ok (.iload_n 1, 1) := by decide +kernel
theorem dX0_numberOfRow_180 : decode cX0_numberOfRow 180 = .ok (.iaload, 1) := by decide +kernel
theorem dX0_numberOfRow_181 : decode cX0_numberOfRow 181 = .ok (.ireturn, 1) := by decide +kernel
theorem dX0_numberOfRow_182 : decode cX0_numberOfRow 182 = .ok (.aload_n 0, 1) := by decide +kernel
theorem dX0_numberOfRow_183 : decode cX0_numberOfRow 183 = .ok (.getfield 39, 3) := by decide +kernel
theorem dX0_numberOfRow_186 : decode cX0_numberOfRow 186 = .ok (.iload_n 1, 1) := by decide +kernel
theorem dX0_numberOfRow_187 : decode cX0_numberOfRow 187 = .ok (.iaload, 1) := by decide +kernel
theorem dX0_numberOfRow_188 : decode cX0_numberOfRow 188 = .ok (.ireturn, 1) := by decide +kernel
theorem dX0_numberOfRow_189 : decode cX0_numberOfRow 189 = .ok (.ldc 74, 2) := by decide +kernel
theorem dX0_numberOfRow_191 : decode cX0_numberOfRow 191 = .ok (.ireturn, 1) := by decide +kernel
theorem dX0_timesTold_0 : decode cX0_timesTold 0 = .ok (.iload_n 1, 1) := by decide +kernel
theorem dX0_timesTold_1 : decode cX0_timesTold 1 = .ok (.iconst 0, 1) := by decide +kernel
theorem dX0_timesTold_2 : decode cX0_timesTold 2 = .ok (.iconst 2, 1) := by decide +kernel
theorem dX0_timesTold_3 : decode cX0_timesTold 3 = .ok (.invokestatic 70, 3) := by decide +kernel
theorem dX0_timesTold_6 : decode cX0_timesTold 6 = .ok (.ifCond .ne 12, 3) := by decide +kernel
theorem dX0_timesTold_9 : decode cX0_timesTold 9 = .ok (.iload_n 2, 1) := by decide +kernel
theorem dX0_timesTold_10 : decode cX0_timesTold 10 = .ok (.iconst 0, 1) := by decide +kernel
theorem dX0_timesTold_11 : decode cX0_timesTold 11 = .ok (.iconst 2, 1) := by decide +kernel
theorem dX0_timesTold_12 : decode cX0_timesTold 12 = .ok (.invokestatic 70, 3) := by decide +kernel
theorem dX0_timesTold_15 : decode cX0_timesTold 15 = .ok (.ifCond .eq 6, 3) := by decide +kernel
theorem dX0_timesTold_18 : decode cX0_timesTold 18 = .ok (.ldc 74, 2) := by decide +kernel
theorem dX0_timesTold_20 : decode cX0_timesTold 20 = .ok (.ireturn, 1) := by decide +kernel
theorem dX0_timesTold_21 : decode cX0_timesTold 21 = .ok (.aload_n 0, 1) := by decide +kernel
theorem dX0_timesTold_22 : decode cX0_timesTold 22 = .ok (.getfield 42, 3) := by decide +kernel
theorem dX0_timesTold_25 : decode cX0_timesTold 25 = .ok (.iconst 3, 1) := by decide +kernel
theorem dX0_timesTold_26 : decode cX0_timesTold 26 = .ok (.iload_n 1, 1) := by decide +kernel
theorem dX0_timesTold_27 : decode cX0_timesTold 27 = .ok (.imul, 1) := by decide +kernel
theorem dX0_timesTold_28 : decode cX0_timesTold 28 = .ok (.iload_n 2, 1) := by decide +kernel
theorem dX0_timesTold_29 : decode cX0_timesTold 29 = .ok (.iadd, 1) := by decide +kernel
theorem dX0_timesTold_30 : decode cX0_timesTold 30 = .ok (.iaload, 1) := by decide +kernel
theorem dX0_timesTold_31 : decode cX0_timesTold 31 = .ok (.ireturn, 1) := by decide +kernel
theorem dX0_tally_0 : decode cX0_tally 0 = .ok (.iload_n 1, 1) := by decide +kernel
theorem dX0_tally_1 : decode cX0_tally 1 = .ok (.tableswitch 224 0 22 #[107, 112, 117, 122, 128, 134, 140, 148, 156, 167, 175, 180, 185, 191, 197, 224, 224, 224, 224, 224, 203, 210, 217], 107) := by decide +kernel
theorem dX0_tally_108 : decode cX0_tally 108 = .ok (.aload_n 0, 1) := by decide +kernel
theorem dX0_tally_109 : decode cX0_tally 109 = .ok (.getfield 62, 3) := by decide +kernel
theorem dX0_tally_112 : decode cX0_tally 112 = .ok (.ireturn, 1) := by decide +kernel
theorem dX0_tally_113 : decode cX0_tally 113 = .ok (.aload_n 0, 1) := by decide +kernel
theorem dX0_tally_114 : decode cX0_tally 114 = .ok (.invokevirtual 131, 3) := by decide +kernel
theorem dX0_tally_117 : decode cX0_tally 117 = .ok (.ireturn, 1) := by decide +kernel
theorem dX0_tally_118 : decode cX0_tally 118 = .ok (.aload_n 0, 1) := by decide +kernel
theorem dX0_tally_119 : decode cX0_tally 119 = .ok (.invokevirtual 135, 3) := by decide +kernel
theorem dX0_tally_122 : decode cX0_tally 122 = .ok (.ireturn, 1) := by decide +kernel
theorem dX0_tally_123 : decode cX0_tally 123 = .ok (.aload_n 0, 1) := by decide +kernel
theorem dX0_tally_124 : decode cX0_tally 124 = .ok (.iconst 0, 1) := by decide +kernel
theorem dX0_tally_125 : decode cX0_tally 125 = .ok (.invokevirtual 138, 3) := by decide +kernel
theorem dX0_tally_128 : decode cX0_tally 128 = .ok (.ireturn, 1) := by decide +kernel
theorem dX0_tally_129 : decode cX0_tally 129 = .ok (.aload_n 0, 1) := by decide +kernel
theorem dX0_tally_130 : decode cX0_tally 130 = .ok (.iconst 1, 1) := by decide +kernel
theorem dX0_tally_131 : decode cX0_tally 131 = .ok (.invokevirtual 138, 3) := by decide +kernel
theorem dX0_tally_134 : decode cX0_tally 134 = .ok (.ireturn, 1) := by decide +kernel
theorem dX0_tally_135 : decode cX0_tally 135 = .ok (.aload_n 0, 1) := by decide +kernel
theorem dX0_tally_136 : decode cX0_tally 136 = .ok (.iconst 2, 1) := by decide +kernel
theorem dX0_tally_137 : decode cX0_tally 137 = .ok (.invokevirtual 138, 3) := by decide +kernel
theorem dX0_tally_140 : decode cX0_tally 140 = .ok (.ireturn, 1) := by decide +kernel
theorem dX0_tally_141 : decode cX0_tally 141 = .ok (.aload_n 0, 1) := by decide +kernel
theorem dX0_tally_142 : decode cX0_tally 142 = .ok (.getfield 27, 3) := by decide +kernel
theorem dX0_tally_145 : decode cX0_tally 145 = .ok (.invokestatic 141, 3) := by decide +kernel
theorem dX0_tally_148 : decode cX0_tally 148 = .ok (.ireturn, 1) := by decide +kernel
theorem dX0_tally_149 : decode cX0_tally 149 = .ok (.aload_n 0, 1) := by decide +kernel
theorem dX0_tally_150 : decode cX0_tally 150 = .ok (.getfield 36, 3) := by decide +kernel
theorem dX0_tally_153 : decode cX0_tally 153 = .ok (.invokestatic 141, 3) := by decide +kernel
theorem dX0_tally_156 : decode cX0_tally 156 = .ok (.ireturn, 1) := by decide +kernel
theorem dX0_tally_157 : decode cX0_tally 157 = .ok (.aload_n 0, 1) := by decide +kernel
theorem dX0_tally_158 : decode cX0_tally 158 = .ok (.getfield 18, 3) := by decide +kernel
theorem dX0_tally_161 : decode cX0_tally 161 = .ok (.invokestatic 141, 3) := by decide +kernel
theorem dX0_tally_164 : decode cX0_tally 164 = .ok (.bipush 48, 2) := by decide +kernel
theorem dX0_tally_166 : decode cX0_tally 166 = .ok (.isub, 1) := by decide +kernel
theorem dX0_tally_167 : decode cX0_tally 167 = .ok (.ireturn, 1) := by decide +kernel
theorem dX0_tally_168 : decode cX0_tally 168 = .ok (.aload_n 0, 1) := by decide +kernel
theorem dX0_tally_169 : decode cX0_tally 169 = .ok (.getfield 39, 3) := by decide +kernel
theorem dX0_tally_172 : decode cX0_tally 172 = .ok (.invokestatic 141, 3) := by decide +kernel
theorem dX0_tally_175 : decode cX0_tally 175 = .ok (.ireturn, 1) := by decide +kernel
theorem dX0_tally_176 : decode cX0_tally 176 = .ok (.aload_n 0, 1) := by decide +kernel
theorem dX0_tally_177 : decode cX0_tally 177 = .ok (.invokevirtual 145, 3) := by decide +kernel
theorem dX0_tally_180 : decode cX0_tally 180 = .ok (.ireturn, 1) := by decide +kernel
theorem dX0_tally_181 : decode cX0_tally 181 = .ok (.aload_n 0, 1) := by decide +kernel
theorem dX0_tally_182 : decode cX0_tally 182 = .ok (.invokevirtual 148, 3) := by decide +kernel
theorem dX0_tally_185 : decode cX0_tally 185 = .ok (.ireturn, 1) := by decide +kernel
theorem dX0_tally_186 : decode cX0_tally 186 = .ok (.aload_n 0, 1) := by decide +kernel
theorem dX0_tally_187 : decode cX0_tally 187 = .ok (.iconst 0, 1) := by decide +kernel
theorem dX0_tally_188 : decode cX0_tally 188 = .ok (.invokevirtual 151, 3) := by decide +kernel
theorem dX0_tally_191 : decode cX0_tally 191 = .ok (.ireturn, 1) := by decide +kernel
theorem dX0_tally_192 : decode cX0_tally 192 = .ok (.aload_n 0, 1) := by decide +kernel
theorem dX0_tally_193 : decode cX0_tally 193 = .ok (.iconst 1, 1) := by decide +kernel
theorem dX0_tally_194 : decode cX0_tally 194 = .ok (.invokevirtual 151, 3) := by decide +kernel
theorem dX0_tally_197 : decode cX0_tally 197 = .ok (.ireturn, 1) := by decide +kernel
theorem dX0_tally_198 : decode cX0_tally 198 = .ok (.aload_n 0, 1) := by decide +kernel
theorem dX0_tally_199 : decode cX0_tally 199 = .ok (.iconst 2, 1) := by decide +kernel
theorem dX0_tally_200 : decode cX0_tally 200 = .ok (.invokevirtual 151, 3) := by decide +kernel
theorem dX0_tally_203 : decode cX0_tally 203 = .ok (.ireturn, 1) := by decide +kernel
theorem dX0_tally_204 : decode cX0_tally 204 = .ok (.aload_n 0, 1) := by decide +kernel
theorem dX0_tally_205 : decode cX0_tally 205 = .ok (.getfield 45, 3) := by decide +kernel
theorem dX0_tally_208 : decode cX0_tally 208 = .ok (.iconst 0, 1) := by decide +kernel
theorem dX0_tally_209 : decode cX0_tally 209 = .ok (.iaload, 1) := by decide +kernel
theorem dX0_tally_210 : decode cX0_tally 210 = .ok (.ireturn, 1) := by decide +kernel
theorem dX0_tally_211 : decode cX0_tally 211 = .ok (.aload_n 0, 1) := by decide +kernel
theorem dX0_tally_212 : decode cX0_tally 212 = .ok (.getfield 45, 3) := by decide +kernel
theorem dX0_tally_215 : decode cX0_tally 215 = .ok (.iconst 1, 1) := by decide +kernel
theorem dX0_tally_216 : decode cX0_tally 216 = .ok (.iaload, 1) := by decide +kernel
theorem dX0_tally_217 : decode cX0_tally 217 = .ok (.ireturn, 1) := by decide +kernel
theorem dX0_tally_218 : decode cX0_tally 218 = .ok (.aload_n 0, 1) := by decide +kernel
theorem dX0_tally_219 : decode cX0_tally 219 = .ok (.getfield 45, 3) := by decide +kernel
theorem dX0_tally_222 : decode cX0_tally 222 = .ok (.iconst 2, 1) := by decide +kernel
theorem dX0_tally_223 : decode cX0_tally 223 = .ok (.iaload, 1) := by decide +kernel
theorem dX0_tally_224 : decode cX0_tally 224 = .ok (.ireturn, 1) := by decide +kernel
theorem dX0_tally_225 : decode cX0_tally 225 = .ok (.ldc 74, 2) := by decide +kernel
theorem dX0_tally_227 : decode cX0_tally 227 = .ok (.ireturn, 1) := by decide +kernel
theorem dX0_timesAsked_0 : decode cX0_timesAsked 0 = .ok (.aload_n 0, 1) := by decide +kernel
theorem dX0_timesAsked_1 : decode cX0_timesAsked 1 = .ok (.getfield 42, 3) := by decide +kernel
theorem dX0_timesAsked_4 : decode cX0_timesAsked 4 = .ok (.invokestatic 141, 3) := by decide +kernel
theorem dX0_timesAsked_7 : decode cX0_timesAsked 7 = .ok (.ireturn, 1) := by decide +kernel
theorem dX0_timesToldRight_0 : decode cX0_timesToldRight 0 = .ok (.iconst 0, 1) := by decide +kernel
theorem dX0_timesToldRight_1 : decode cX0_timesToldRight 1 = .ok (.istore_n 1, 1) := by decide +kernel
theorem dX0_timesToldRight_2 : decode cX0_timesToldRight 2 = .ok (.iconst 0, 1) := by decide +kernel
theorem dX0_timesToldRight_3 : decode cX0_timesToldRight 3 = .ok (.istore_n 2, 1) := by decide +kernel
theorem dX0_timesToldRight_4 : decode cX0_timesToldRight 4 = .ok (.iload_n 2, 1) := by decide +kernel
theorem dX0_timesToldRight_5 : decode cX0_timesToldRight 5 = .ok (.iconst 3, 1) := by decide +kernel
theorem dX0_timesToldRight_6 : decode cX0_timesToldRight 6 = .ok (.if_icmp .ge 22, 3) := by decide +kernel
theorem dX0_timesToldRight_9 : decode cX0_timesToldRight 9 = .ok (.iload_n 1, 1) := by decide +kernel
theorem dX0_timesToldRight_10 : decode cX0_timesToldRight 10 = .ok (.aload_n 0, 1) := by decide +kernel
theorem dX0_timesToldRight_11 : decode cX0_timesToldRight 11 = .ok (.getfield 42, 3) := by decide +kernel
theorem dX0_timesToldRight_14 : decode cX0_timesToldRight 14 = .ok (.iconst 3, 1) := by decide +kernel
theorem dX0_timesToldRight_15 : decode cX0_timesToldRight 15 = .ok (.iload_n 2, 1) := by decide +kernel
theorem dX0_timesToldRight_16 : decode cX0_timesToldRight 16 = .ok (.imul, 1) := by decide +kernel
theorem dX0_timesToldRight_17 : decode cX0_timesToldRight 17 = .ok (.iload_n 2, 1) := by decide +kernel
theorem dX0_timesToldRight_18 : decode cX0_timesToldRight 18 = .ok (.iadd, 1) := by decide +kernel
theorem dX0_timesToldRight_19 : decode cX0_timesToldRight 19 = .ok (.iaload, 1) := by decide +kernel
theorem dX0_timesToldRight_20 : decode cX0_timesToldRight 20 = .ok (.iadd, 1) := by decide +kernel
theorem dX0_timesToldRight_21 : decode cX0_timesToldRight 21 = .ok (.istore_n 1, 1) := by decide +kernel
theorem dX0_timesToldRight_22 : decode cX0_timesToldRight 22 = .ok (.iinc 2 1, 3) := by decide +kernel
theorem dX0_timesToldRight_25 : decode cX0_timesToldRight 25 = .ok (.goto (-21), 3) := by decide +kernel
theorem dX0_timesToldRight_28 : decode cX0_timesToldRight 28 = .ok (.iload_n 1, 1) := by decide +kernel
theorem dX0_timesToldRight_29 : decode cX0_timesToldRight 29 = .ok (.ireturn, 1) := by decide +kernel
theorem dX0_distanceFromAims_0 : decode cX0_distanceFromAims 0 = .ok (.iconst 0, 1) := by decide +kernel
theorem dX0_distanceFromAims_1 : decode cX0_distanceFromAims 1 = .ok (.istore_n 1, 1) := by decide +kernel
theorem dX0_distanceFromAims_2 : decode cX0_distanceFromAims 2 = .ok (.iconst 0, 1) := by decide +kernel
theorem dX0_distanceFromAims_3 : decode cX0_distanceFromAims 3 = .ok (.istore_n 2, 1) := by decide +kernel
theorem dX0_distanceFromAims_4 : decode cX0_distanceFromAims 4 = .ok (.iload_n 2, 1) := by decide +kernel
theorem dX0_distanceFromAims_5 : decode cX0_distanceFromAims 5 = .ok (.bipush 48, 2) := by decide +kernel
theorem dX0_distanceFromAims_7 : decode cX0_distanceFromAims 7 = .ok (.if_icmp .ge 31, 3) := by decide +kernel
theorem dX0_distanceFromAims_10 : decode cX0_distanceFromAims 10 = .ok (.iload_n 1, 1) := by decide +kernel
theorem dX0_distanceFromAims_11 : decode cX0_distanceFromAims 11 = .ok (.aload_n 0, 1) := by decide +kernel
theorem dX0_distanceFromAims_12 : decode cX0_distanceFromAims 12 = .ok (.getfield 15, 3) := by decide +kernel
theorem dX0_distanceFromAims_15 : decode cX0_distanceFromAims 15 = .ok (.iload_n 2, 1) := by decide +kernel
theorem dX0_distanceFromAims_16 : decode cX0_distanceFromAims 16 = .ok (.iaload, 1) := by decide +kernel
theorem dX0_distanceFromAims_17 : decode cX0_distanceFromAims 17 = .ok (.aload_n 0, 1) := by decide +kernel
theorem dX0_distanceFromAims_18 : decode cX0_distanceFromAims 18 = .ok (.getfield 9, 3) := by decide +kernel
theorem dX0_distanceFromAims_21 : decode cX0_distanceFromAims 21 = .ok (.iload_n 2, 1) := by decide +kernel
theorem dX0_distanceFromAims_22 : decode cX0_distanceFromAims 22 = .ok (.iaload, 1) := by decide +kernel
theorem dX0_distanceFromAims_23 : decode cX0_distanceFromAims 23 = .ok (.invokestatic 154, 3) := by decide +kernel
theorem dX0_distanceFromAims_26 : decode cX0_distanceFromAims 26 = .ok (.isub, 1) := by decide +kernel
theorem dX0_distanceFromAims_27 : decode cX0_distanceFromAims 27 = .ok (.invokestatic 107, 3) := by decide +kernel
theorem dX0_distanceFromAims_30 : decode cX0_distanceFromAims 30 = .ok (.iadd, 1) := by decide +kernel
theorem dX0_distanceFromAims_31 : decode cX0_distanceFromAims 31 = .ok (.istore_n 1, 1) := by decide +kernel
theorem dX0_distanceFromAims_32 : decode cX0_distanceFromAims 32 = .ok (.iinc 2 1, 3) := by decide +kernel
theorem dX0_distanceFromAims_35 : decode cX0_distanceFromAims 35 = .ok (.goto (-31), 3) := by decide +kernel
theorem dX0_distanceFromAims_38 : decode cX0_distanceFromAims 38 = .ok (.iload_n 1, 1) := by decide +kernel
theorem dX0_distanceFromAims_39 : decode cX0_distanceFromAims 39 = .ok (.ireturn, 1) := by decide +kernel
theorem dX0_worstBut_0 : decode cX0_worstBut 0 = .ok (.iconst 0, 1) := by decide +kernel
theorem dX0_worstBut_1 : decode cX0_worstBut 1 = .ok (.istore_n 2, 1) := by decide +kernel
theorem dX0_worstBut_2 : decode cX0_worstBut 2 = .ok (.iconst (-1), 1) := by decide +kernel
theorem dX0_worstBut_3 : decode cX0_worstBut 3 = .ok (.istore_n 3, 1) := by decide +kernel
theorem dX0_worstBut_4 : decode cX0_worstBut 4 = .ok (.iconst 0, 1) := by decide +kernel
theorem dX0_worstBut_5 : decode cX0_worstBut 5 = .ok (.istore 4, 2) := by decide +kernel
theorem dX0_worstBut_7 : decode cX0_worstBut 7 = .ok (.iload 4, 2) := by decide +kernel
theorem dX0_worstBut_9 : decode cX0_worstBut 9 = .ok (.bipush 6, 2) := by decide +kernel
theorem dX0_worstBut_11 : decode cX0_worstBut 11 = .ok (.if_icmp .ge 50, 3) := by decide +kernel
theorem dX0_worstBut_14 : decode cX0_worstBut 14 = .ok (.iload_n 1, 1) := by decide +kernel
theorem dX0_worstBut_15 : decode cX0_worstBut 15 = .ok (.iload 4, 2) := by decide +kernel
theorem dX0_worstBut_17 : decode cX0_worstBut 17 = .ok (.ishr, 1) := by decide +kernel
theorem dX0_worstBut_18 : decode cX0_worstBut 18 = .ok (.iconst 1, 1) := by decide +kernel
theorem dX0_worstBut_19 : decode cX0_worstBut 19 = .ok (.iand, 1) := by decide +kernel
theorem dX0_worstBut_20 : decode cX0_worstBut 20 = .ok (.ifCond .eq 7, 3) := by decide +kernel
theorem dX0_worstBut_23 : decode cX0_worstBut 23 = .ok (.iconst 1, 1) := by decide +kernel
theorem dX0_worstBut_24 : decode cX0_worstBut 24 = .ok (.goto 4, 3) := by decide +kernel
theorem dX0_worstBut_27 : decode cX0_worstBut 27 = .ok (.iconst 0, 1) := by decide +kernel
theorem dX0_worstBut_28 : decode cX0_worstBut 28 = .ok (.istore 5, 2) := by decide +kernel
theorem dX0_worstBut_30 : decode cX0_worstBut 30 = .ok (.iload 5, 2) := by decide +kernel
theorem dX0_worstBut_32 : decode cX0_worstBut 32 = .ok (.ifCond .ne 23, 3) := by decide +kernel
theorem dX0_worstBut_35 : decode cX0_worstBut 35 = .ok (.aload_n 0, 1) := by decide +kernel
theorem dX0_worstBut_36 : decode cX0_worstBut 36 = .ok (.iload 4, 2) := by decide +kernel
theorem dX0_worstBut_38 : decode cX0_worstBut 38 = .ok (.invokevirtual 122, 3) := by decide +kernel
theorem dX0_worstBut_41 : decode cX0_worstBut 41 = .ok (.iload_n 3, 1) := by decide +kernel
theorem dX0_worstBut_42 : decode cX0_worstBut 42 = .ok (.if_icmp .le 13, 3) := by decide +kernel
theorem dX0_worstBut_45 : decode cX0_worstBut 45 = .ok (.iload 4, 2) := by decide +kernel
theorem dX0_worstBut_47 : decode cX0_worstBut 47 = .ok (.istore_n 2, 1) := by decide +kernel
theorem dX0_worstBut_48 : decode cX0_worstBut 48 = .ok (.aload_n 0, 1) := by decide +kernel
theorem dX0_worstBut_49 : decode cX0_worstBut 49 = .ok (.iload 4, 2) := by decide +kernel
theorem dX0_worstBut_51 : decode cX0_worstBut 51 = .ok (.invokevirtual 122, 3) := by decide +kernel
theorem dX0_worstBut_54 : decode cX0_worstBut 54 = .ok (.istore_n 3, 1) := by decide +kernel
theorem dX0_worstBut_55 : decode cX0_worstBut 55 = .ok (.iinc 4 1, 3) := by decide +kernel
theorem dX0_worstBut_58 : decode cX0_worstBut 58 = .ok (.goto (-51), 3) := by decide +kernel
theorem dX0_worstBut_61 : decode cX0_worstBut 61 = .ok (.iload_n 2, 1) := by decide +kernel
theorem dX0_worstBut_62 : decode cX0_worstBut 62 = .ok (.ireturn, 1) := by decide +kernel
theorem dX0_wrongCells_0 : decode cX0_wrongCells 0 = .ok (.aload_n 0, 1) := by decide +kernel
theorem dX0_wrongCells_1 : decode cX0_wrongCells 1 = .ok (.iload_n 1, 1) := by decide +kernel
theorem dX0_wrongCells_2 : decode cX0_wrongCells 2 = .ok (.aload_n 0, 1) := by decide +kernel
theorem dX0_wrongCells_3 : decode cX0_wrongCells 3 = .ok (.iload_n 1, 1) := by decide +kernel
theorem dX0_wrongCells_4 : decode cX0_wrongCells 4 = .ok (.iconst 0, 1) := by decide +kernel
theorem dX0_wrongCells_5 : decode cX0_wrongCells 5 = .ok (.invokevirtual 79, 3) := by decide +kernel
theorem dX0_wrongCells_8 : decode cX0_wrongCells 8 = .ok (.aload_n 0, 1) := by decide +kernel
theorem dX0_wrongCells_9 : decode cX0_wrongCells 9 = .ok (.iload_n 1, 1) := by decide +kernel
theorem dX0_wrongCells_10 : decode cX0_wrongCells 10 = .ok (.iconst 1, 1) := by decide +kernel
theorem dX0_wrongCells_11 : decode cX0_wrongCells 11 = .ok (.invokevirtual 79, 3) := by decide +kernel
theorem dX0_wrongCells_14 : decode cX0_wrongCells 14 = .ok (.invokevirtual 125, 3) := by decide +kernel
theorem dX0_wrongCells_17 : decode cX0_wrongCells 17 = .ok (.ireturn, 1) := by decide +kernel
theorem dX0_hasRightThresholds_0 : decode cX0_hasRightThresholds 0 = .ok (.iload_n 1, 1) := by decide +kernel
theorem dX0_hasRightThresholds_1 : decode cX0_hasRightThresholds 1 = .ok (.ifCond .lt 9, 3) := by decide +kernel
theorem dX0_hasRightThresholds_4 : decode cX0_hasRightThresholds 4 = .ok (.iload_n 1, 1) := by decide +kernel
theorem dX0_hasRightThresholds_5 : decode cX0_hasRightThresholds 5 = .ok (.bipush 6, 2) := by decide +kernel
theorem dX0_hasRightThresholds_7 : decode cX0_hasRightThresholds 7 = .ok (.if_icmp .lt 5, 3) := by decide +kernel
theorem dX0_hasRightThresholds_10 : decode cX0_hasRightThresholds 10 = .ok (.iconst 0, 1) := by decide +kernel
theorem dX0_hasRightThresholds_11 : decode cX0_hasRightThresholds 11 = .ok (.ireturn, 1) := by decide +kernel
theorem dX0_hasRightThresholds_12 : decode cX0_hasRightThresholds 12 = .ok (.iconst 3, 1) := by decide +kernel
theorem dX0_hasRightThresholds_13 : decode cX0_hasRightThresholds 13 = .ok (.iload_n 1, 1) := by decide +kernel
theorem dX0_hasRightThresholds_14 : decode cX0_hasRightThresholds 14 = .ok (.imul, 1) := by decide +kernel
theorem dX0_hasRightThresholds_15 : decode cX0_hasRightThresholds 15 = .ok (.istore_n 2, 1) := by decide +kernel
theorem dX0_hasRightThresholds_16 : decode cX0_hasRightThresholds 16 = .ok (.aload_n 0, 1) := by decide +kernel
theorem dX0_hasRightThresholds_17 : decode cX0_hasRightThresholds 17 = .ok (.getfield 24, 3) := by decide +kernel
theorem dX0_hasRightThresholds_20 : decode cX0_hasRightThresholds 20 = .ok (.iload_n 2, 1) := by decide +kernel
theorem dX0_hasRightThresholds_21 : decode cX0_hasRightThresholds 21 = .ok (.iconst 1, 1) := by decide +kernel
theorem dX0_hasRightThresholds_22 : decode cX0_hasRightThresholds 22 = .ok (.iadd, 1) := by decide +kernel
theorem dX0_hasRightThresholds_23 : decode cX0_hasRightThresholds 23 = .ok (.iaload, 1) := by decide +kernel
theorem dX0_hasRightThresholds_24 : decode cX0_hasRightThresholds 24 = .ok (.aload_n 0, 1) := by decide +kernel
theorem dX0_hasRightThresholds_25 : decode cX0_hasRightThresholds 25 = .ok (.getfield 24, 3) := by decide +kernel
theorem dX0_hasRightThresholds_28 : decode cX0_hasRightThresholds 28 = .ok (.iload_n 2, 1) := by decide +kernel
theorem dX0_hasRightThresholds_29 : decode cX0_hasRightThresholds 29 = .ok (.iaload, 1) := by decide +kernel
theorem dX0_hasRightThresholds_30 : decode cX0_hasRightThresholds 30 = .ok (.isub, 1) := by decide +kernel
theorem dX0_hasRightThresholds_31 : decode cX0_hasRightThresholds 31 = .ok (.aload_n 0, 1) := by decide +kernel
theorem dX0_hasRightThresholds_32 : decode cX0_hasRightThresholds 32 = .ok (.getfield 45, 3) := by decide +kernel
theorem dX0_hasRightThresholds_35 : decode cX0_hasRightThresholds 35 = .ok (.iconst 1, 1) := by decide +kernel
theorem dX0_hasRightThresholds_36 : decode cX0_hasRightThresholds 36 = .ok (.iaload, 1) := by decide +kernel
theorem dX0_hasRightThresholds_37 : decode cX0_hasRightThresholds 37 = .ok (.if_icmp .lt 33, 3) := by decide +kernel
theorem dX0_hasRightThresholds_40 : decode cX0_hasRightThresholds 40 = .ok (.aload_n 0, 1) := by decide +kernel
theorem dX0_hasRightThresholds_41 : decode cX0_hasRightThresholds 41 = .ok (.getfield 24, 3) := by decide +kernel
theorem dX0_hasRightThresholds_44 : decode cX0_hasRightThresholds 44 = .ok (.iload_n 2, 1) := by decide +kernel
theorem dX0_hasRightThresholds_45 : decode cX0_hasRightThresholds 45 = .ok (.iconst 2, 1) := by decide +kernel
theorem dX0_hasRightThresholds_46 : decode cX0_hasRightThresholds 46 = .ok (.iadd, 1) := by decide +kernel
theorem dX0_hasRightThresholds_47 : decode cX0_hasRightThresholds 47 = .ok (.iaload, 1) := by decide +kernel
theorem dX0_hasRightThresholds_48 : decode cX0_hasRightThresholds 48 = .ok (.aload_n 0, 1) := by decide +kernel
theorem dX0_hasRightThresholds_49 : decode cX0_hasRightThresholds 49 = .ok (.getfield 24, 3) := by decide +kernel
theorem dX0_hasRightThresholds_52 : decode cX0_hasRightThresholds 52 = .ok (.iload_n 2, 1) := by decide +kernel
theorem dX0_hasRightThresholds_53 : decode cX0_hasRightThresholds 53 = .ok (.iconst 1, 1) := by decide +kernel
theorem dX0_hasRightThresholds_54 : decode cX0_hasRightThresholds 54 = .ok (.iadd, 1) := by decide +kernel
theorem dX0_hasRightThresholds_55 : decode cX0_hasRightThresholds 55 = .ok (.iaload, 1) := by decide +kernel
theorem dX0_hasRightThresholds_56 : decode cX0_hasRightThresholds 56 = .ok (.isub, 1) := by decide +kernel
theorem dX0_hasRightThresholds_57 : decode cX0_hasRightThresholds 57 = .ok (.aload_n 0, 1) := by decide +kernel
theorem dX0_hasRightThresholds_58 : decode cX0_hasRightThresholds 58 = .ok (.getfield 45, 3) := by decide +kernel
theorem dX0_hasRightThresholds_61 : decode cX0_hasRightThresholds 61 = .ok (.iconst 1, 1) := by decide +kernel
theorem dX0_hasRightThresholds_62 : decode cX0_hasRightThresholds 62 = .ok (.iaload, 1) := by decide +kernel
theorem dX0_hasRightThresholds_63 : decode cX0_hasRightThresholds 63 = .ok (.if_icmp .lt 7, 3) := by decide +kernel
theorem dX0_hasRightThresholds_66 : decode cX0_hasRightThresholds 66 = .ok (.iconst 1, 1) := by decide +kernel
theorem dX0_hasRightThresholds_67 : decode cX0_hasRightThresholds 67 = .ok (.goto 4, 3) := by decide +kernel
theorem dX0_hasRightThresholds_70 : decode cX0_hasRightThresholds 70 = .ok (.iconst 0, 1) := by decide +kernel
theorem dX0_hasRightThresholds_71 : decode cX0_hasRightThresholds 71 = .ok (.ireturn, 1) := by decide +kernel
theorem dX0_ownThreshold_0 : decode cX0_ownThreshold 0 = .ok (.iconst 3, 1) := by decide +kernel
theorem dX0_ownThreshold_1 : decode cX0_ownThreshold 1 = .ok (.iload_n 1, 1) := by decide +kernel
theorem dX0_ownThreshold_2 : decode cX0_ownThreshold 2 = .ok (.imul, 1) := by decide +kernel
theorem dX0_ownThreshold_3 : decode cX0_ownThreshold 3 = .ok (.iload_n 2, 1) := by decide +kernel
theorem dX0_ownThreshold_4 : decode cX0_ownThreshold 4 = .ok (.iadd, 1) := by decide +kernel
theorem dX0_ownThreshold_5 : decode cX0_ownThreshold 5 = .ok (.istore_n 3, 1) := by decide +kernel
theorem dX0_ownThreshold_6 : decode cX0_ownThreshold 6 = .ok (.aload_n 0, 1) := by decide +kernel
theorem dX0_ownThreshold_7 : decode cX0_ownThreshold 7 = .ok (.getfield 24, 3) := by decide +kernel
theorem dX0_ownThreshold_10 : decode cX0_ownThreshold 10 = .ok (.iload_n 3, 1) := by decide +kernel
theorem dX0_ownThreshold_11 : decode cX0_ownThreshold 11 = .ok (.iaload, 1) := by decide +kernel
theorem dX0_ownThreshold_12 : decode cX0_ownThreshold 12 = .ok (.aload_n 0, 1) := by decide +kernel
theorem dX0_ownThreshold_13 : decode cX0_ownThreshold 13 = .ok (.getfield 24, 3) := by decide +kernel
theorem dX0_ownThreshold_16 : decode cX0_ownThreshold 16 = .ok (.iload_n 3, 1) := by decide +kernel
theorem dX0_ownThreshold_17 : decode cX0_ownThreshold 17 = .ok (.iconst 1, 1) := by decide +kernel
theorem dX0_ownThreshold_18 : decode cX0_ownThreshold 18 = .ok (.iadd, 1) := by decide +kernel
theorem dX0_ownThreshold_19 : decode cX0_ownThreshold 19 = .ok (.iaload, 1) := by decide +kernel
theorem dX0_ownThreshold_20 : decode cX0_ownThreshold 20 = .ok (.iadd, 1) := by decide +kernel
theorem dX0_ownThreshold_21 : decode cX0_ownThreshold 21 = .ok (.iconst 2, 1) := by decide +kernel
theorem dX0_ownThreshold_22 : decode cX0_ownThreshold 22 = .ok (.idiv, 1) := by decide +kernel
theorem dX0_ownThreshold_23 : decode cX0_ownThreshold 23 = .ok (.ireturn, 1) := by decide +kernel
theorem dX0_source_0 : decode cX0_source 0 = .ok (.aload_n 0, 1) := by decide +kernel
theorem dX0_source_1 : decode cX0_source 1 = .ok (.iload_n 1, 1) := by decide +kernel
theorem dX0_source_2 : decode cX0_source 2 = .ok (.invokevirtual 115, 3) := by decide +kernel
theorem dX0_source_5 : decode cX0_source 5 = .ok (.ifCond .eq 5, 3) := by decide +kernel
theorem dX0_source_8 : decode cX0_source 8 = .ok (.iconst 0, 1) := by decide +kernel
theorem dX0_source_9 : decode cX0_source 9 = .ok (.ireturn, 1) := by decide +kernel
theorem dX0_source_10 : decode cX0_source 10 = .ok (.aload_n 0, 1) := by decide +kernel
theorem dX0_source_11 : decode cX0_source 11 = .ok (.iload_n 1, 1) := by decide +kernel
theorem dX0_source_12 : decode cX0_source 12 = .ok (.iconst 1, 1) := by decide +kernel
theorem dX0_source_13 : decode cX0_source 13 = .ok (.isub, 1) := by decide +kernel
theorem dX0_source_14 : decode cX0_source 14 = .ok (.invokevirtual 115, 3) := by decide +kernel
theorem dX0_source_17 : decode cX0_source 17 = .ok (.ifCond .ne 13, 3) := by decide +kernel
theorem dX0_source_20 : decode cX0_source 20 = .ok (.aload_n 0, 1) := by decide +kernel
theorem dX0_source_21 : decode cX0_source 21 = .ok (.iload_n 1, 1) := by decide +kernel
theorem dX0_source_22 : decode cX0_source 22 = .ok (.iconst 1, 1) := by decide +kernel
theorem dX0_source_23 : decode cX0_source 23 = .ok (.iadd, 1) := by decide +kernel
theorem dX0_source_24 : decode cX0_source 24 = .ok (.invokevirtual 115, 3) := by decide +kernel
theorem dX0_source_27 : decode cX0_source 27 = .ok (.ifCond .eq 7, 3) := by decide +kernel
theorem dX0_source_30 : decode cX0_source 30 = .ok (.iconst 1, 1) := by decide +kernel
theorem dX0_source_31 : decode cX0_source 31 = .ok (.goto 4, 3) := by decide +kernel
theorem dX0_source_34 : decode cX0_source 34 = .ok (.iconst 2, 1) := by decide +kernel
theorem dX0_source_35 : decode cX0_source 35 = .ok (.ireturn, 1) := by decide +kernel
theorem dX0_threshold_0 : decode cX0_threshold 0 = .ok (.aload_n 0, 1) := by decide +kernel
theorem dX0_threshold_1 : decode cX0_threshold 1 = .ok (.iload_n 1, 1) := by decide +kernel
theorem dX0_threshold_2 : decode cX0_threshold 2 = .ok (.invokevirtual 115, 3) := by decide +kernel
theorem dX0_threshold_5 : decode cX0_threshold 5 = .ok (.ifCond .eq 10, 3) := by decide +kernel
theorem dX0_threshold_8 : decode cX0_threshold 8 = .ok (.aload_n 0, 1) := by decide +kernel
theorem dX0_threshold_9 : decode cX0_threshold 9 = .ok (.iload_n 1, 1) := by decide +kernel
theorem dX0_threshold_10 : decode cX0_threshold 10 = .ok (.iload_n 2, 1) := by decide +kernel
theorem dX0_threshold_11 : decode cX0_threshold 11 = .ok (.invokevirtual 104, 3) := by decide +kernel
theorem dX0_threshold_14 : decode cX0_threshold 14 = .ok (.ireturn, 1) := by decide +kernel
theorem dX0_threshold_15 : decode cX0_threshold 15 = .ok (.aload_n 0, 1) := by decide +kernel
theorem dX0_threshold_16 : decode cX0_threshold 16 = .ok (.iload_n 1, 1) := by decide +kernel
theorem dX0_threshold_17 : decode cX0_threshold 17 = .ok (.iconst 1, 1) := by decide +kernel
theorem dX0_threshold_18 : decode cX0_threshold 18 = .ok (.isub, 1) := by decide +kernel
theorem dX0_threshold_19 : decode cX0_threshold 19 = .ok (.invokevirtual 115, 3) := by decide +kernel
theorem dX0_threshold_22 : decode cX0_threshold 22 = .ok (.istore_n 3, 1) := by decide +kernel
theorem dX0_threshold_23 : decode cX0_threshold 23 = .ok (.aload_n 0, 1) := by decide +kernel
theorem dX0_threshold_24 : decode cX0_threshold 24 = .ok (.iload_n 1, 1) := by decide +kernel
theorem dX0_threshold_25 : decode cX0_threshold 25 = .ok (.iconst 1, 1) := by decide +kernel
theorem dX0_threshold_26 : decode cX0_threshold 26 = .ok (.iadd, 1) := by decide +kernel
theorem dX0_threshold_27 : decode cX0_threshold 27 = .ok (.invokevirtual 115, 3) := by decide +kernel
theorem dX0_threshold_30 : decode cX0_threshold 30 = .ok (.istore 4, 2) := by decide +kernel
theorem dX0_threshold_32 : decode cX0_threshold 32 = .ok (.iload_n 3, 1) := by decide +kernel
theorem dX0_threshold_33 : decode cX0_threshold 33 = .ok (.ifCond .eq 28, 3) := by decide +kernel
theorem dX0_threshold_36 : decode cX0_threshold 36 = .ok (.iload 4, 2) := by decide +kernel
theorem dX0_threshold_38 : decode cX0_threshold 38 = .ok (.ifCond .eq 23, 3) := by decide +kernel
theorem dX0_threshold_41 : decode cX0_threshold 41 = .ok (.aload_n 0, 1) := by decide +kernel
theorem dX0_threshold_42 : decode cX0_threshold 42 = .ok (.iload_n 1, 1) := by decide +kernel
theorem dX0_threshold_43 : decode cX0_threshold 43 = .ok (.iconst 1, 1) := by decide +kernel
theorem dX0_threshold_44 : decode cX0_threshold 44 = .ok (.isub, 1) := by decide +kernel
theorem dX0_threshold_45 : decode cX0_threshold 45 = .ok (.iload_n 2, 1) := by decide +kernel
theorem dX0_threshold_46 : decode cX0_threshold 46 = .ok (.invokevirtual 104, 3) := by decide +kernel
theorem dX0_threshold_49 : decode cX0_threshold 49 = .ok (.aload_n 0, 1) := by decide +kernel
theorem dX0_threshold_50 : decode cX0_threshold 50 = .ok (.iload_n 1, 1) := by decide +kernel
theorem dX0_threshold_51 : decode cX0_threshold 51 = .ok (.iconst 1, 1) := by decide +kernel
theorem dX0_threshold_52 : decode cX0_threshold 52 = .ok (.iadd, 1) := by decide +kernel
theorem dX0_threshold_53 : decode cX0_threshold 53 = .ok (.iload_n 2, 1) := by decide +kernel
theorem dX0_threshold_54 : decode cX0_threshold 54 = .ok (.invokevirtual 104, 3) := by decide +kernel
theorem dX0_threshold_57 : decode cX0_threshold 57 = .ok (.iadd, 1) := by decide +kernel
theorem dX0_threshold_58 : decode cX0_threshold 58 = .ok (.iconst 2, 1) := by decide +kernel
theorem dX0_threshold_59 : decode cX0_threshold 59 = .ok (.idiv, 1) := by decide +kernel
theorem dX0_threshold_60 : decode cX0_threshold 60 = .ok (.ireturn, 1) := by decide +kernel
theorem dX0_threshold_61 : decode cX0_threshold 61 = .ok (.iload_n 3, 1) := by decide +kernel
theorem dX0_threshold_62 : decode cX0_threshold 62 = .ok (.ifCond .eq 12, 3) := by decide +kernel
theorem dX0_threshold_65 : decode cX0_threshold 65 = .ok (.aload_n 0, 1) := by decide +kernel
theorem dX0_threshold_66 : decode cX0_threshold 66 = .ok (.iload_n 1, 1) := by decide +kernel
theorem dX0_threshold_67 : decode cX0_threshold 67 = .ok (.iconst 1, 1) := by decide +kernel
theorem dX0_threshold_68 : decode cX0_threshold 68 = .ok (.isub, 1) := by decide +kernel
theorem dX0_threshold_69 : decode cX0_threshold 69 = .ok (.iload_n 2, 1) := by decide +kernel
theorem dX0_threshold_70 : decode cX0_threshold 70 = .ok (.invokevirtual 104, 3) := by decide +kernel
theorem dX0_threshold_73 : decode cX0_threshold 73 = .ok (.ireturn, 1) := by decide +kernel
theorem dX0_threshold_74 : decode cX0_threshold 74 = .ok (.iload 4, 2) := by decide +kernel
theorem dX0_threshold_76 : decode cX0_threshold 76 = .ok (.ifCond .eq 12, 3) := by decide +kernel
theorem dX0_threshold_79 : decode cX0_threshold 79 = .ok (.aload_n 0, 1) := by decide +kernel
theorem dX0_threshold_80 : decode cX0_threshold 80 = .ok (.iload_n 1, 1) := by decide +kernel
theorem dX0_threshold_81 : decode cX0_threshold 81 = .ok (.iconst 1, 1) := by decide +kernel
theorem dX0_threshold_82 : decode cX0_threshold 82 = .ok (.iadd, 1) := by decide +kernel
theorem dX0_threshold_83 : decode cX0_threshold 83 = .ok (.iload_n 2, 1) := by decide +kernel
theorem dX0_threshold_84 : decode cX0_threshold 84 = .ok (.invokevirtual 104, 3) := by decide +kernel
theorem dX0_threshold_87 : decode cX0_threshold 87 = .ok (.ireturn, 1) := by decide +kernel
theorem dX0_threshold_88 : decode cX0_threshold 88 = .ok (.iload_n 2, 1) := by decide +kernel
theorem dX0_threshold_89 : decode cX0_threshold 89 = .ok (.ifCond .ne 9, 3) := by decide +kernel
theorem dX0_threshold_92 : decode cX0_threshold 92 = .ok (.sipush 300, 3) := by decide +kernel
theorem dX0_threshold_95 : decode cX0_threshold 95 = .ok (.goto 6, 3) := by decide +kernel
theorem dX0_threshold_98 : decode cX0_threshold 98 = .ok (.sipush 700, 3) := by decide +kernel
theorem dX0_threshold_101 : decode cX0_threshold 101 = .ok (.ireturn, 1) := by decide +kernel
theorem dX0_tell_0 : decode cX0_tell 0 = .ok (.iload_n 0, 1) := by decide +kernel
theorem dX0_tell_1 : decode cX0_tell 1 = .ok (.iload_n 1, 1) := by decide +kernel
theorem dX0_tell_2 : decode cX0_tell 2 = .ok (.if_icmp .ge 5, 3) := by decide +kernel
theorem dX0_tell_5 : decode cX0_tell 5 = .ok (.iconst 0, 1) := by decide +kernel
theorem dX0_tell_6 : decode cX0_tell 6 = .ok (.ireturn, 1) := by decide +kernel
theorem dX0_tell_7 : decode cX0_tell 7 = .ok (.iload_n 0, 1) := by decide +kernel
theorem dX0_tell_8 : decode cX0_tell 8 = .ok (.iload_n 2, 1) := by decide +kernel
theorem dX0_tell_9 : decode cX0_tell 9 = .ok (.if_icmp .lt 7, 3) := by decide +kernel
theorem dX0_tell_12 : decode cX0_tell 12 = .ok (.iconst 2, 1) := by decide +kernel
theorem dX0_tell_13 : decode cX0_tell 13 = .ok (.goto 4, 3) := by decide +kernel
theorem dX0_tell_16 : decode cX0_tell 16 = .ok (.iconst 1, 1) := by decide +kernel
theorem dX0_tell_17 : decode cX0_tell 17 = .ok (.ireturn, 1) := by decide +kernel
theorem dX0_wrongBy_0 : decode cX0_wrongBy 0 = .ok (.iconst 0, 1) := by decide +kernel
theorem dX0_wrongBy_1 : decode cX0_wrongBy 1 = .ok (.istore 4, 2) := by decide +kernel
theorem dX0_wrongBy_3 : decode cX0_wrongBy 3 = .ok (.iconst 0, 1) := by decide +kernel
theorem dX0_wrongBy_4 : decode cX0_wrongBy 4 = .ok (.istore 5, 2) := by decide +kernel
theorem dX0_wrongBy_6 : decode cX0_wrongBy 6 = .ok (.iload 5, 2) := by decide +kernel
theorem dX0_wrongBy_8 : decode cX0_wrongBy 8 = .ok (.bipush 8, 2) := by decide +kernel
theorem dX0_wrongBy_10 : decode cX0_wrongBy 10 = .ok (.if_icmp .ge 43, 3) := by decide +kernel
theorem dX0_wrongBy_13 : decode cX0_wrongBy 13 = .ok (.bipush 8, 2) := by decide +kernel
theorem dX0_wrongBy_15 : decode cX0_wrongBy 15 = .ok (.iload_n 1, 1) := by decide +kernel
theorem dX0_wrongBy_16 : decode cX0_wrongBy 16 = .ok (.imul, 1) := by decide +kernel
theorem dX0_wrongBy_17 : decode cX0_wrongBy 17 = .ok (.iload 5, 2) := by decide +kernel
theorem dX0_wrongBy_19 : decode cX0_wrongBy 19 = .ok (.iadd, 1) := by decide +kernel
theorem dX0_wrongBy_20 : decode cX0_wrongBy 20 = .ok (.istore 6, 2) := by decide +kernel
theorem dX0_wrongBy_22 : decode cX0_wrongBy 22 = .ok (.aload_n 0, 1) := by decide +kernel
theorem dX0_wrongBy_23 : decode cX0_wrongBy 23 = .ok (.getfield 15, 3) := by decide +kernel
theorem dX0_wrongBy_26 : decode cX0_wrongBy 26 = .ok (.iload 6, 2) := by decide +kernel
theorem dX0_wrongBy_28 : decode cX0_wrongBy 28 = .ok (.iaload, 1) := by decide +kernel
theorem dX0_wrongBy_29 : decode cX0_wrongBy 29 = .ok (.iload_n 2, 1) := by decide +kernel
theorem dX0_wrongBy_30 : decode cX0_wrongBy 30 = .ok (.iload_n 3, 1) := by decide +kernel
theorem dX0_wrongBy_31 : decode cX0_wrongBy 31 = .ok (.invokestatic 83, 3) := by decide +kernel
theorem dX0_wrongBy_34 : decode cX0_wrongBy 34 = .ok (.aload_n 0, 1) := by decide +kernel
theorem dX0_wrongBy_35 : decode cX0_wrongBy 35 = .ok (.getfield 9, 3) := by decide +kernel
theorem dX0_wrongBy_38 : decode cX0_wrongBy 38 = .ok (.iload 6, 2) := by decide +kernel
theorem dX0_wrongBy_40 : decode cX0_wrongBy 40 = .ok (.iaload, 1) := by decide +kernel
theorem dX0_wrongBy_41 : decode cX0_wrongBy 41 = .ok (.if_icmp .eq 6, 3) := by decide +kernel
theorem dX0_wrongBy_44 : decode cX0_wrongBy 44 = .ok (.iinc 4 1, 3) := by decide +kernel
theorem dX0_wrongBy_47 : decode cX0_wrongBy 47 = .ok (.iinc 5 1, 3) := by decide +kernel
theorem dX0_wrongBy_50 : decode cX0_wrongBy 50 = .ok (.goto (-44), 3) := by decide +kernel
theorem dX0_wrongBy_53 : decode cX0_wrongBy 53 = .ok (.iload 4, 2) := by decide +kernel
theorem dX0_wrongBy_55 : decode cX0_wrongBy 55 = .ok (.ireturn, 1) := by decide +kernel
theorem dX0_toldWord_0 : decode cX0_toldWord 0 = .ok (.aload_n 0, 1) := by decide +kernel
theorem dX0_toldWord_1 : decode cX0_toldWord 1 = .ok (.iload_n 1, 1) := by decide +kernel
theorem dX0_toldWord_2 : decode cX0_toldWord 2 = .ok (.iconst 0, 1) := by decide +kernel
theorem dX0_toldWord_3 : decode cX0_toldWord 3 = .ok (.invokevirtual 79, 3) := by decide +kernel
theorem dX0_toldWord_6 : decode cX0_toldWord 6 = .ok (.istore_n 2, 1) := by decide +kernel
theorem dX0_toldWord_7 : decode cX0_toldWord 7 = .ok (.aload_n 0, 1) := by decide +kernel
theorem dX0_toldWord_8 : decode cX0_toldWord 8 = .ok (.iload_n 1, 1) := by decide +kernel
theorem dX0_toldWord_9 : decode cX0_toldWord 9 = .ok (.iconst 1, 1) := by decide +kernel
theorem dX0_toldWord_10 : decode cX0_toldWord 10 = .ok (.invokevirtual 79, 3) := by decide +kernel
theorem dX0_toldWord_13 : decode cX0_toldWord 13 = .ok (.istore_n 3, 1) := by decide +kernel
theorem dX0_toldWord_14 : decode cX0_toldWord 14 = .ok (.iconst 0, 1) := by decide +kernel
theorem dX0_toldWord_15 : decode cX0_toldWord 15 = .ok (.istore 4, 2) := by decide +kernel
theorem dX0_toldWord_17 : decode cX0_toldWord 17 = .ok (.bipush 7, 2) := by decide +kernel
theorem dX0_toldWord_19 : decode cX0_toldWord 19 = .ok (.istore 5, 2) := by decide +kernel
theorem dX0_toldWord_21 : decode cX0_toldWord 21 = .ok (.iload 5, 2) := by decide +kernel
theorem dX0_toldWord_23 : decode cX0_toldWord 23 = .ok (.ifCond .lt 33, 3) := by decide +kernel
theorem dX0_toldWord_26 : decode cX0_toldWord 26 = .ok (.iconst 3, 1) := by decide +kernel
theorem dX0_toldWord_27 : decode cX0_toldWord 27 = .ok (.iload 4, 2) := by decide +kernel
theorem dX0_toldWord_29 : decode cX0_toldWord 29 = .ok (.imul, 1) := by decide +kernel
theorem dX0_toldWord_30 : decode cX0_toldWord 30 = .ok (.aload_n 0, 1) := by decide +kernel
theorem dX0_toldWord_31 : decode cX0_toldWord 31 = .ok (.getfield 15, 3) := by decide +kernel
theorem dX0_toldWord_34 : decode cX0_toldWord 34 = .ok (.bipush 8, 2) := by decide +kernel
theorem dX0_toldWord_36 : decode cX0_toldWord 36 = .ok (.iload_n 1, 1) := by decide +kernel
theorem dX0_toldWord_37 : decode cX0_toldWord 37 = .ok (.imul, 1) := by decide +kernel
theorem dX0_toldWord_38 : decode cX0_toldWord 38 = .ok (.iload 5, 2) := by decide +kernel
theorem dX0_toldWord_40 : decode cX0_toldWord 40 = .ok (.iadd, 1) := by decide +kernel
theorem dX0_toldWord_41 : decode cX0_toldWord 41 = .ok (.iaload, 1) := by decide +kernel
theorem dX0_toldWord_42 : decode cX0_toldWord 42 = .ok (.iload_n 2, 1) := by decide +kernel
theorem dX0_toldWord_43 : decode cX0_toldWord 43 = .ok (.iload_n 3, 1) := by decide +kernel
theorem dX0_toldWord_44 : decode cX0_toldWord 44 = .ok (.invokestatic 83, 3) := by decide +kernel
theorem dX0_toldWord_47 : decode cX0_toldWord 47 = .ok (.iadd, 1) := by decide +kernel
theorem dX0_toldWord_48 : decode cX0_toldWord 48 = .ok (.istore 4, 2) := by decide +kernel
theorem dX0_toldWord_50 : decode cX0_toldWord 50 = .ok (.iinc 5 (-1), 3) := by decide +kernel
theorem dX0_toldWord_53 : decode cX0_toldWord 53 = .ok (.goto (-32), 3) := by decide +kernel
theorem dX0_toldWord_56 : decode cX0_toldWord 56 = .ok (.iload 4, 2) := by decide +kernel
theorem dX0_toldWord_58 : decode cX0_toldWord 58 = .ok (.ireturn, 1) := by decide +kernel
theorem dX0_levelWord_0 : decode cX0_levelWord 0 = .ok (.iconst 0, 1) := by decide +kernel
theorem dX0_levelWord_1 : decode cX0_levelWord 1 = .ok (.istore_n 2, 1) := by decide +kernel
theorem dX0_levelWord_2 : decode cX0_levelWord 2 = .ok (.bipush 7, 2) := by decide +kernel
theorem dX0_levelWord_4 : decode cX0_levelWord 4 = .ok (.istore_n 3, 1) := by decide +kernel
theorem dX0_levelWord_5 : decode cX0_levelWord 5 = .ok (.iload_n 3, 1) := by decide +kernel
theorem dX0_levelWord_6 : decode cX0_levelWord 6 = .ok (.ifCond .lt 25, 3) := by decide +kernel
theorem dX0_levelWord_9 : decode cX0_levelWord 9 = .ok (.iconst 3, 1) := by decide +kernel
theorem dX0_levelWord_10 : decode cX0_levelWord 10 = .ok (.iload_n 2, 1) := by decide +kernel
theorem dX0_levelWord_11 : decode cX0_levelWord 11 = .ok (.imul, 1) := by decide +kernel
theorem dX0_levelWord_12 : decode cX0_levelWord 12 = .ok (.aload_n 0, 1) := by decide +kernel
theorem dX0_levelWord_13 : decode cX0_levelWord 13 = .ok (.getfield 9, 3) := by decide +kernel
theorem dX0_levelWord_16 : decode cX0_levelWord 16 = .ok (.bipush 8, 2) := by decide +kernel
theorem dX0_levelWord_18 : decode cX0_levelWord 18 = .ok (.iload_n 1, 1) := by decide +kernel
theorem dX0_levelWord_19 : decode cX0_levelWord 19 = .ok (.imul, 1) := by decide +kernel
theorem dX0_levelWord_20 : decode cX0_levelWord 20 = .ok (.iload_n 3, 1) := by decide +kernel
theorem dX0_levelWord_21 : decode cX0_levelWord 21 = .ok (.iadd, 1) := by decide +kernel
theorem dX0_levelWord_22 : decode cX0_levelWord 22 = .ok (.iaload, 1) := by decide +kernel
theorem dX0_levelWord_23 : decode cX0_levelWord 23 = .ok (.iadd, 1) := by decide +kernel
theorem dX0_levelWord_24 : decode cX0_levelWord 24 = .ok (.istore_n 2, 1) := by decide +kernel
theorem dX0_levelWord_25 : decode cX0_levelWord 25 = .ok (.iinc 3 (-1), 3) := by decide +kernel
theorem dX0_levelWord_28 : decode cX0_levelWord 28 = .ok (.goto (-23), 3) := by decide +kernel
theorem dX0_levelWord_31 : decode cX0_levelWord 31 = .ok (.iload_n 2, 1) := by decide +kernel
theorem dX0_levelWord_32 : decode cX0_levelWord 32 = .ok (.ireturn, 1) := by decide +kernel
theorem dX0_aim_0 : decode cX0_aim 0 = .ok (.bipush 100, 2) := by decide +kernel
theorem dX0_aim_2 : decode cX0_aim 2 = .ok (.sipush 400, 3) := by decide +kernel
theorem dX0_aim_5 : decode cX0_aim 5 = .ok (.iload_n 0, 1) := by decide +kernel
theorem dX0_aim_6 : decode cX0_aim 6 = .ok (.imul, 1) := by decide +kernel
theorem dX0_aim_7 : decode cX0_aim 7 = .ok (.iadd, 1) := by decide +kernel
theorem dX0_aim_8 : decode cX0_aim 8 = .ok (.ireturn, 1) := by decide +kernel
theorem dX0_put_0 : decode cX0_put 0 = .ok (.bipush 37, 2) := by decide +kernel
theorem dX0_put_2 : decode cX0_put 2 = .ok (.iload_n 1, 1) := by decide +kernel
theorem dX0_put_3 : decode cX0_put 3 = .ok (.imul, 1) := by decide +kernel
theorem dX0_put_4 : decode cX0_put 4 = .ok (.bipush 11, 2) := by decide +kernel
theorem dX0_put_6 : decode cX0_put 6 = .ok (.aload_n 0, 1) := by decide +kernel
theorem dX0_put_7 : decode cX0_put 7 = .ok (.getfield 18, 3) := by decide +kernel
theorem dX0_put_10 : decode cX0_put 10 = .ok (.iload_n 1, 1) := by decide +kernel
theorem dX0_put_11 : decode cX0_put 11 = .ok (.iaload, 1) := by decide +kernel
theorem dX0_put_12 : decode cX0_put 12 = .ok (.imul, 1) := by decide +kernel
theorem dX0_put_13 : decode cX0_put 13 = .ok (.iadd, 1) := by decide +kernel
theorem dX0_put_14 : decode cX0_put 14 = .ok (.bipush 21, 2) := by decide +kernel
theorem dX0_put_16 : decode cX0_put 16 = .ok (.irem, 1) := by decide +kernel
theorem dX0_put_17 : decode cX0_put 17 = .ok (.bipush 10, 2) := by decide +kernel
theorem dX0_put_19 : decode cX0_put 19 = .ok (.isub, 1) := by decide +kernel
theorem dX0_put_20 : decode cX0_put 20 = .ok (.istore_n 3, 1) := by decide +kernel
theorem dX0_put_21 : decode cX0_put 21 = .ok (.aload_n 0, 1) := by decide +kernel
theorem dX0_put_22 : decode cX0_put 22 = .ok (.getfield 9, 3) := by decide +kernel
theorem dX0_put_25 : decode cX0_put 25 = .ok (.iload_n 1, 1) := by decide +kernel
theorem dX0_put_26 : decode cX0_put 26 = .ok (.iload_n 2, 1) := by decide +kernel
theorem dX0_put_27 : decode cX0_put 27 = .ok (.iastore, 1) := by decide +kernel
theorem dX0_put_28 : decode cX0_put 28 = .ok (.aload_n 0, 1) := by decide +kernel
theorem dX0_put_29 : decode cX0_put 29 = .ok (.getfield 15, 3) := by decide +kernel
theorem dX0_put_32 : decode cX0_put 32 = .ok (.iload_n 1, 1) := by decide +kernel
theorem dX0_put_33 : decode cX0_put 33 = .ok (.iload_n 2, 1) := by decide +kernel
theorem dX0_put_34 : decode cX0_put 34 = .ok (.invokestatic 154, 3) := by decide +kernel
theorem dX0_put_37 : decode cX0_put 37 = .ok (.iload_n 3, 1) := by decide +kernel
theorem dX0_put_38 : decode cX0_put 38 = .ok (.iadd, 1) := by decide +kernel
theorem dX0_put_39 : decode cX0_put 39 = .ok (.iastore, 1) := by decide +kernel
theorem dX0_put_40 : decode cX0_put 40 = .ok (.aload_n 0, 1) := by decide +kernel
theorem dX0_put_41 : decode cX0_put 41 = .ok (.getfield 18, 3) := by decide +kernel
theorem dX0_put_44 : decode cX0_put 44 = .ok (.iload_n 1, 1) := by decide +kernel
theorem dX0_put_45 : decode cX0_put 45 = .ok (.dup2, 1) := by decide +kernel
theorem dX0_put_46 : decode cX0_put 46 = .ok (.iaload, 1) := by decide +kernel
theorem dX0_put_47 : decode cX0_put 47 = .ok (.iconst 1, 1) := by decide +kernel
theorem dX0_put_48 : decode cX0_put 48 = .ok (.iadd, 1) := by decide +kernel
theorem dX0_put_49 : decode cX0_put 49 = .ok (.iastore, 1) := by decide +kernel
theorem dX0_put_50 : decode cX0_put 50 = .ok (.aload_n 0, 1) := by decide +kernel
theorem dX0_put_51 : decode cX0_put 51 = .ok (.getfield 21, 3) := by decide +kernel
theorem dX0_put_54 : decode cX0_put 54 = .ok (.iload_n 1, 1) := by decide +kernel
theorem dX0_put_55 : decode cX0_put 55 = .ok (.aload_n 0, 1) := by decide +kernel
theorem dX0_put_56 : decode cX0_put 56 = .ok (.getfield 62, 3) := by decide +kernel
theorem dX0_put_59 : decode cX0_put 59 = .ok (.iastore, 1) := by decide +kernel
theorem dX0_put_60 : decode cX0_put 60 = .ok (.return_, 1) := by decide +kernel
theorem dX0_writeGuards_0 : decode cX0_writeGuards 0 = .ok (.iconst 0, 1) := by decide +kernel
theorem dX0_writeGuards_1 : decode cX0_writeGuards 1 = .ok (.istore_n 2, 1) := by decide +kernel
theorem dX0_writeGuards_2 : decode cX0_writeGuards 2 = .ok (.iload_n 2, 1) := by decide +kernel
theorem dX0_writeGuards_3 : decode cX0_writeGuards 3 = .ok (.iconst 3, 1) := by decide +kernel
theorem dX0_writeGuards_4 : decode cX0_writeGuards 4 = .ok (.if_icmp .ge 34, 3) := by decide +kernel
theorem dX0_writeGuards_7 : decode cX0_writeGuards 7 = .ok (.iconst 3, 1) := by decide +kernel
theorem dX0_writeGuards_8 : decode cX0_writeGuards 8 = .ok (.iload_n 1, 1) := by decide +kernel
theorem dX0_writeGuards_9 : decode cX0_writeGuards 9 = .ok (.imul, 1) := by decide +kernel
theorem dX0_writeGuards_10 : decode cX0_writeGuards 10 = .ok (.iload_n 2, 1) := by decide +kernel
theorem dX0_writeGuards_11 : decode cX0_writeGuards 11 = .ok (.iadd, 1) := by decide +kernel
theorem dX0_writeGuards_12 : decode cX0_writeGuards 12 = .ok (.istore_n 3, 1) := by decide +kernel
theorem dX0_writeGuards_13 : decode cX0_writeGuards 13 = .ok (.aload_n 0, 1) := by decide +kernel
theorem dX0_writeGuards_14 : decode cX0_writeGuards 14 = .ok (.getfield 27, 3) := by decide +kernel
theorem dX0_writeGuards_17 : decode cX0_writeGuards 17 = .ok (.iload_n 3, 1) := by decide +kernel
theorem dX0_writeGuards_18 : decode cX0_writeGuards 18 = .ok (.iaload, 1) := by decide +kernel
theorem dX0_writeGuards_19 : decode cX0_writeGuards 19 = .ok (.ifCond .ne 13, 3) := by decide +kernel
theorem dX0_writeGuards_22 : decode cX0_writeGuards 22 = .ok (.aload_n 0, 1) := by decide +kernel
theorem dX0_writeGuards_23 : decode cX0_writeGuards 23 = .ok (.getfield 24, 3) := by decide +kernel
theorem dX0_writeGuards_26 : decode cX0_writeGuards 26 = .ok (.iload_n 3, 1) := by decide +kernel
theorem dX0_writeGuards_27 : decode cX0_writeGuards 27 = .ok (.iload_n 2, 1) := by decide +kernel
theorem dX0_writeGuards_28 : decode cX0_writeGuards 28 = .ok (.invokestatic 154, 3) := by decide +kernel
theorem dX0_writeGuards_31 : decode cX0_writeGuards 31 = .ok (.iastore, 1) := by decide +kernel
theorem dX0_writeGuards_32 : decode cX0_writeGuards 32 = .ok (.iinc 2 1, 3) := by decide +kernel
theorem dX0_writeGuards_35 : decode cX0_writeGuards 35 = .ok (.goto (-33), 3) := by decide +kernel
theorem dX0_writeGuards_38 : decode cX0_writeGuards 38 = .ok (.aload_n 0, 1) := by decide +kernel
theorem dX0_writeGuards_39 : decode cX0_writeGuards 39 = .ok (.getfield 33, 3) := by decide +kernel
theorem dX0_writeGuards_42 : decode cX0_writeGuards 42 = .ok (.iload_n 1, 1) := by decide +kernel
theorem dX0_writeGuards_43 : decode cX0_writeGuards 43 = .ok (.aload_n 0, 1) := by decide +kernel
theorem dX0_writeGuards_44 : decode cX0_writeGuards 44 = .ok (.getfield 62, 3) := by decide +kernel
theorem dX0_writeGuards_47 : decode cX0_writeGuards 47 = .ok (.iastore, 1) := by decide +kernel
theorem dX0_writeGuards_48 : decode cX0_writeGuards 48 = .ok (.return_, 1) := by decide +kernel
theorem dX0_drift_0 : decode cX0_drift 0 = .ok (.iconst 0, 1) := by decide +kernel
theorem dX0_drift_1 : decode cX0_drift 1 = .ok (.istore_n 1, 1) := by decide +kernel
theorem dX0_drift_2 : decode cX0_drift 2 = .ok (.iload_n 1, 1) := by decide +kernel
theorem dX0_drift_3 : decode cX0_drift 3 = .ok (.bipush 48, 2) := by decide +kernel
theorem dX0_drift_5 : decode cX0_drift 5 = .ok (.if_icmp .ge 34, 3) := by decide +kernel
theorem dX0_drift_8 : decode cX0_drift 8 = .ok (.aload_n 0, 1) := by decide +kernel
theorem dX0_drift_9 : decode cX0_drift 9 = .ok (.getfield 15, 3) := by decide +kernel
theorem dX0_drift_12 : decode cX0_drift 12 = .ok (.iload_n 1, 1) := by decide +kernel
theorem dX0_drift_13 : decode cX0_drift 13 = .ok (.aload_n 0, 1) := by decide +kernel
theorem dX0_drift_14 : decode cX0_drift 14 = .ok (.aload_n 0, 1) := by decide +kernel
theorem dX0_drift_15 : decode cX0_drift 15 = .ok (.getfield 15, 3) := by decide +kernel
theorem dX0_drift_18 : decode cX0_drift 18 = .ok (.iload_n 1, 1) := by decide +kernel
theorem dX0_drift_19 : decode cX0_drift 19 = .ok (.iaload, 1) := by decide +kernel
theorem dX0_drift_20 : decode cX0_drift 20 = .ok (.aload_n 0, 1) := by decide +kernel
theorem dX0_drift_21 : decode cX0_drift 21 = .ok (.getfield 30, 3) := by decide +kernel
theorem dX0_drift_24 : decode cX0_drift 24 = .ok (.iload_n 1, 1) := by decide +kernel
theorem dX0_drift_25 : decode cX0_drift 25 = .ok (.bipush 8, 2) := by decide +kernel
theorem dX0_drift_27 : decode cX0_drift 27 = .ok (.idiv, 1) := by decide +kernel
theorem dX0_drift_28 : decode cX0_drift 28 = .ok (.iaload, 1) := by decide +kernel
theorem dX0_drift_29 : decode cX0_drift 29 = .ok (.invokevirtual 157, 3) := by decide +kernel
theorem dX0_drift_32 : decode cX0_drift 32 = .ok (.iastore, 1) := by decide +kernel
theorem dX0_drift_33 : decode cX0_drift 33 = .ok (.iinc 1 1, 3) := by decide +kernel
theorem dX0_drift_36 : decode cX0_drift 36 = .ok (.goto (-34), 3) := by decide +kernel
theorem dX0_drift_39 : decode cX0_drift 39 = .ok (.iconst 0, 1) := by decide +kernel
theorem dX0_drift_40 : decode cX0_drift 40 = .ok (.istore_n 1, 1) := by decide +kernel
theorem dX0_drift_41 : decode cX0_drift 41 = .ok (.iload_n 1, 1) := by decide +kernel
theorem dX0_drift_42 : decode cX0_drift 42 = .ok (.bipush 18, 2) := by decide +kernel
theorem dX0_drift_44 : decode cX0_drift 44 = .ok (.if_icmp .ge 42, 3) := by decide +kernel
theorem dX0_drift_47 : decode cX0_drift 47 = .ok (.aload_n 0, 1) := by decide +kernel
theorem dX0_drift_48 : decode cX0_drift 48 = .ok (.getfield 27, 3) := by decide +kernel
theorem dX0_drift_51 : decode cX0_drift 51 = .ok (.iload_n 1, 1) := by decide +kernel
theorem dX0_drift_52 : decode cX0_drift 52 = .ok (.iaload, 1) := by decide +kernel
theorem dX0_drift_53 : decode cX0_drift 53 = .ok (.ifCond .ne 27, 3) := by decide +kernel
theorem dX0_drift_56 : decode cX0_drift 56 = .ok (.aload_n 0, 1) := by decide +kernel
theorem dX0_drift_57 : decode cX0_drift 57 = .ok (.getfield 24, 3) := by decide +kernel
theorem dX0_drift_60 : decode cX0_drift 60 = .ok (.iload_n 1, 1) := by decide +kernel
theorem dX0_drift_61 : decode cX0_drift 61 = .ok (.aload_n 0, 1) := by decide +kernel
theorem dX0_drift_62 : decode cX0_drift 62 = .ok (.aload_n 0, 1) := by decide +kernel
theorem dX0_drift_63 : decode cX0_drift 63 = .ok (.getfield 24, 3) := by decide +kernel
theorem dX0_drift_66 : decode cX0_drift 66 = .ok (.iload_n 1, 1) := by decide +kernel
theorem dX0_drift_67 : decode cX0_drift 67 = .ok (.iaload, 1) := by decide +kernel
theorem dX0_drift_68 : decode cX0_drift 68 = .ok (.aload_n 0, 1) := by decide +kernel
theorem dX0_drift_69 : decode cX0_drift 69 = .ok (.getfield 30, 3) := by decide +kernel
theorem dX0_drift_72 : decode cX0_drift 72 = .ok (.iload_n 1, 1) := by decide +kernel
theorem dX0_drift_73 : decode cX0_drift 73 = .ok (.iconst 3, 1) := by decide +kernel
theorem dX0_drift_74 : decode cX0_drift 74 = .ok (.idiv, 1) := by decide +kernel
theorem dX0_drift_75 : decode cX0_drift 75 = .ok (.iaload, 1) := by decide +kernel
theorem dX0_drift_76 : decode cX0_drift 76 = .ok (.invokevirtual 157, 3) := by decide +kernel
theorem dX0_drift_79 : decode cX0_drift 79 = .ok (.iastore, 1) := by decide +kernel
theorem dX0_drift_80 : decode cX0_drift 80 = .ok (.iinc 1 1, 3) := by decide +kernel
theorem dX0_drift_83 : decode cX0_drift 83 = .ok (.goto (-42), 3) := by decide +kernel
theorem dX0_drift_86 : decode cX0_drift 86 = .ok (.return_, 1) := by decide +kernel
theorem dX0_nearer_0 : decode cX0_nearer 0 = .ok (.aload_n 0, 1) := by decide +kernel
theorem dX0_nearer_1 : decode cX0_nearer 1 = .ok (.getfield 45, 3) := by decide +kernel
theorem dX0_nearer_4 : decode cX0_nearer 4 = .ok (.iconst 0, 1) := by decide +kernel
theorem dX0_nearer_5 : decode cX0_nearer 5 = .ok (.iaload, 1) := by decide +kernel
theorem dX0_nearer_6 : decode cX0_nearer 6 = .ok (.istore_n 3, 1) := by decide +kernel
theorem dX0_nearer_7 : decode cX0_nearer 7 = .ok (.iload_n 1, 1) := by decide +kernel
theorem dX0_nearer_8 : decode cX0_nearer 8 = .ok (.iload_n 3, 1) := by decide +kernel
theorem dX0_nearer_9 : decode cX0_nearer 9 = .ok (.if_icmp .ge 19, 3) := by decide +kernel
theorem dX0_nearer_12 : decode cX0_nearer 12 = .ok (.iload_n 1, 1) := by decide +kernel
theorem dX0_nearer_13 : decode cX0_nearer 13 = .ok (.iconst 1, 1) := by decide +kernel
theorem dX0_nearer_14 : decode cX0_nearer 14 = .ok (.iload_n 3, 1) := by decide +kernel
theorem dX0_nearer_15 : decode cX0_nearer 15 = .ok (.iload_n 1, 1) := by decide +kernel
theorem dX0_nearer_16 : decode cX0_nearer 16 = .ok (.isub, 1) := by decide +kernel
theorem dX0_nearer_17 : decode cX0_nearer 17 = .ok (.iload_n 2, 1) := by decide +kernel
theorem dX0_nearer_18 : decode cX0_nearer 18 = .ok (.imul, 1) := by decide +kernel
theorem dX0_nearer_19 : decode cX0_nearer 19 = .ok (.sipush 1000, 3) := by decide +kernel
theorem dX0_nearer_22 : decode cX0_nearer 22 = .ok (.idiv, 1) := by decide +kernel
theorem dX0_nearer_23 : decode cX0_nearer 23 = .ok (.invokestatic 160, 3) := by decide +kernel
theorem dX0_nearer_26 : decode cX0_nearer 26 = .ok (.iadd, 1) := by decide +kernel
theorem dX0_nearer_27 : decode cX0_nearer 27 = .ok (.ireturn, 1) := by decide +kernel
theorem dX0_nearer_28 : decode cX0_nearer 28 = .ok (.iload_n 1, 1) := by decide +kernel
theorem dX0_nearer_29 : decode cX0_nearer 29 = .ok (.iload_n 3, 1) := by decide +kernel
theorem dX0_nearer_30 : decode cX0_nearer 30 = .ok (.if_icmp .le 19, 3) := by decide +kernel
theorem dX0_nearer_33 : decode cX0_nearer 33 = .ok (.iload_n 1, 1) := by decide +kernel
theorem dX0_nearer_34 : decode cX0_nearer 34 = .ok (.iconst 1, 1) := by decide +kernel
theorem dX0_nearer_35 : decode cX0_nearer 35 = .ok (.iload_n 1, 1) := by decide +kernel
theorem dX0_nearer_36 : decode cX0_nearer 36 = .ok (.iload_n 3, 1) := by decide +kernel
theorem dX0_nearer_37 : decode cX0_nearer 37 = .ok (.isub, 1) := by decide +kernel
theorem dX0_nearer_38 : decode cX0_nearer 38 = .ok (.iload_n 2, 1) := by decide +kernel
theorem dX0_nearer_39 : decode cX0_nearer 39 = .ok (.imul, 1) := by decide +kernel
theorem dX0_nearer_40 : decode cX0_nearer 40 = .ok (.sipush 1000, 3) := by decide +kernel
theorem dX0_nearer_43 : decode cX0_nearer 43 = .ok (.idiv, 1) := by decide +kernel
theorem dX0_nearer_44 : decode cX0_nearer 44 = .ok (.invokestatic 160, 3) := by decide +kernel
theorem dX0_nearer_47 : decode cX0_nearer 47 = .ok (.isub, 1) := by decide +kernel
theorem dX0_nearer_48 : decode cX0_nearer 48 = .ok (.ireturn, 1) := by decide +kernel
theorem dX0_nearer_49 : decode cX0_nearer 49 = .ok (.iload_n 1, 1) := by decide +kernel
theorem dX0_nearer_50 : decode cX0_nearer 50 = .ok (.ireturn, 1) := by decide +kernel
theorem dX0_age_0 : decode cX0_age 0 = .ok (.aload_n 0, 1) := by decide +kernel
theorem dX0_age_1 : decode cX0_age 1 = .ok (.getfield 62, 3) := by decide +kernel
theorem dX0_age_4 : decode cX0_age 4 = .ok (.aload_n 0, 1) := by decide +kernel
theorem dX0_age_5 : decode cX0_age 5 = .ok (.getfield 33, 3) := by decide +kernel
theorem dX0_age_8 : decode cX0_age 8 = .ok (.iload_n 1, 1) := by decide +kernel
theorem dX0_age_9 : decode cX0_age 9 = .ok (.iaload, 1) := by decide +kernel
theorem dX0_age_10 : decode cX0_age 10 = .ok (.isub, 1) := by decide +kernel
theorem dX0_age_11 : decode cX0_age 11 = .ok (.ireturn, 1) := by decide +kernel
theorem dX0_allWrongCells_0 : decode cX0_allWrongCells 0 = .ok (.iconst 0, 1) := by decide +kernel
theorem dX0_allWrongCells_1 : decode cX0_allWrongCells 1 = .ok (.istore_n 1, 1) := by decide +kernel
theorem dX0_allWrongCells_2 : decode cX0_allWrongCells 2 = .ok (.iconst 0, 1) := by decide +kernel
theorem dX0_allWrongCells_3 : decode cX0_allWrongCells 3 = .ok (.istore_n 2, 1) := by decide +kernel
theorem dX0_allWrongCells_4 : decode cX0_allWrongCells 4 = .ok (.iload_n 2, 1) := by decide +kernel
theorem dX0_allWrongCells_5 : decode cX0_allWrongCells 5 = .ok (.bipush 6, 2) := by decide +kernel
theorem dX0_allWrongCells_7 : decode cX0_allWrongCells 7 = .ok (.if_icmp .ge 17, 3) := by decide +kernel
theorem dX0_allWrongCells_10 : decode cX0_allWrongCells 10 = .ok (.iload_n 1, 1) := by decide +kernel
theorem dX0_allWrongCells_11 : decode cX0_allWrongCells 11 = .ok (.aload_n 0, 1) := by decide +kernel
theorem dX0_allWrongCells_12 : decode cX0_allWrongCells 12 = .ok (.iload_n 2, 1) := by decide +kernel
theorem dX0_allWrongCells_13 : decode cX0_allWrongCells 13 = .ok (.invokevirtual 122, 3) := by decide +kernel
theorem dX0_allWrongCells_16 : decode cX0_allWrongCells 16 = .ok (.iadd, 1) := by decide +kernel
theorem dX0_allWrongCells_17 : decode cX0_allWrongCells 17 = .ok (.istore_n 1, 1) := by decide +kernel
theorem dX0_allWrongCells_18 : decode cX0_allWrongCells 18 = .ok (.iinc 2 1, 3) := by decide +kernel
theorem dX0_allWrongCells_21 : decode cX0_allWrongCells 21 = .ok (.goto (-17), 3) := by decide +kernel
theorem dX0_allWrongCells_24 : decode cX0_allWrongCells 24 = .ok (.iload_n 1, 1) := by decide +kernel
theorem dX0_allWrongCells_25 : decode cX0_allWrongCells 25 = .ok (.ireturn, 1) := by decide +kernel
theorem dX0_rowsWithWrongCells_0 : decode cX0_rowsWithWrongCells 0 = .ok (.iconst 0, 1) := by decide +kernel
theorem dX0_rowsWithWrongCells_1 : decode cX0_rowsWithWrongCells 1 = .ok (.istore_n 1, 1) := by decide +kernel
theorem dX0_rowsWithWrongCells_2 : decode cX0_rowsWithWrongCells 2 = .ok (.iconst 0, 1) := by decide +kernel
theorem dX0_rowsWithWrongCells_3 : decode cX0_rowsWithWrongCells 3 = .ok (.istore_n 2, 1) := by decide +kernel
theorem dX0_rowsWithWrongCells_4 : decode cX0_rowsWithWrongCells 4 = .ok (.iload_n 2, 1) := by decide +kernel
theorem dX0_rowsWithWrongCells_5 : decode cX0_rowsWithWrongCells 5 = .ok (.bipush 6, 2) := by decide +kernel
theorem dX0_rowsWithWrongCells_7 : decode cX0_rowsWithWrongCells 7 = .ok (.if_icmp .ge 23, 3) := by decide +kernel
theorem dX0_rowsWithWrongCells_10 : decode cX0_rowsWithWrongCells 10 = .ok (.aload_n 0, 1) := by decide +kernel
theorem dX0_rowsWithWrongCells_11 : decode cX0_rowsWithWrongCells 11 = .ok (.iload_n 2, 1) := by decide +kernel
theorem dX0_rowsWithWrongCells_12 : decode cX0_rowsWithWrongCells 12 = .ok (.invokevirtual 122, 3) := by decide +kernel
theorem dX0_rowsWithWrongCells_15 : decode cX0_rowsWithWrongCells 15 = .ok (.ifCond .le 9, 3) := by decide +kernel
theorem dX0_rowsWithWrongCells_18 : decode cX0_rowsWithWrongCells 18 = .ok (.iload_n 1, 1) := by decide +kernel
theorem dX0_rowsWithWrongCells_19 : decode cX0_rowsWithWrongCells 19 = .ok (.iconst 1, 1) := by decide +kernel
theorem dX0_rowsWithWrongCells_20 : decode cX0_rowsWithWrongCells 20 = .ok (.iload_n 2, 1) := by decide +kernel
theorem dX0_rowsWithWrongCells_21 : decode cX0_rowsWithWrongCells 21 = .ok (.ishl, 1) := by decide +kernel
theorem dX0_rowsWithWrongCells_22 : decode cX0_rowsWithWrongCells 22 = .ok (.ior, 1) := by decide +kernel
theorem dX0_rowsWithWrongCells_23 : decode cX0_rowsWithWrongCells 23 = .ok (.istore_n 1, 1) := by decide +kernel
theorem dX0_rowsWithWrongCells_24 : decode cX0_rowsWithWrongCells 24 = .ok (.iinc 2 1, 3) := by decide +kernel
theorem dX0_rowsWithWrongCells_27 : decode cX0_rowsWithWrongCells 27 = .ok (.goto (-23), 3) := by decide +kernel
theorem dX0_rowsWithWrongCells_30 : decode cX0_rowsWithWrongCells 30 = .ok (.iload_n 1, 1) := by decide +kernel
theorem dX0_rowsWithWrongCells_31 : decode cX0_rowsWithWrongCells 31 = .ok (.ireturn, 1) := by decide +kernel
theorem dX0_rowsToldBy_0 : decode cX0_rowsToldBy 0 = .ok (.iconst 0, 1) := by decide +kernel
theorem dX0_rowsToldBy_1 : decode cX0_rowsToldBy 1 = .ok (.istore_n 2, 1) := by decide +kernel
theorem dX0_rowsToldBy_2 : decode cX0_rowsToldBy 2 = .ok (.iconst 0, 1) := by decide +kernel
theorem dX0_rowsToldBy_3 : decode cX0_rowsToldBy 3 = .ok (.istore_n 3, 1) := by decide +kernel
theorem dX0_rowsToldBy_4 : decode cX0_rowsToldBy 4 = .ok (.iload_n 3, 1) := by decide +kernel
theorem dX0_rowsToldBy_5 : decode cX0_rowsToldBy 5 = .ok (.bipush 6, 2) := by decide +kernel
theorem dX0_rowsToldBy_7 : decode cX0_rowsToldBy 7 = .ok (.if_icmp .ge 24, 3) := by decide +kernel
theorem dX0_rowsToldBy_10 : decode cX0_rowsToldBy 10 = .ok (.aload_n 0, 1) := by decide +kernel
theorem dX0_rowsToldBy_11 : decode cX0_rowsToldBy 11 = .ok (.iload_n 3, 1) := by decide +kernel
theorem dX0_rowsToldBy_12 : decode cX0_rowsToldBy 12 = .ok (.invokevirtual 119, 3) := by decide +kernel
theorem dX0_rowsToldBy_15 : decode cX0_rowsToldBy 15 = .ok (.iload_n 1, 1) := by decide +kernel
theorem dX0_rowsToldBy_16 : decode cX0_rowsToldBy 16 = .ok (.if_icmp .ne 9, 3) := by decide +kernel
theorem dX0_rowsToldBy_19 : decode cX0_rowsToldBy 19 = .ok (.iload_n 2, 1) := by decide +kernel
theorem dX0_rowsToldBy_20 : decode cX0_rowsToldBy 20 = .ok (.iconst 1, 1) := by decide +kernel
theorem dX0_rowsToldBy_21 : decode cX0_rowsToldBy 21 = .ok (.iload_n 3, 1) := by decide +kernel
theorem dX0_rowsToldBy_22 : decode cX0_rowsToldBy 22 = .ok (.ishl, 1) := by decide +kernel
theorem dX0_rowsToldBy_23 : decode cX0_rowsToldBy 23 = .ok (.ior, 1) := by decide +kernel
theorem dX0_rowsToldBy_24 : decode cX0_rowsToldBy 24 = .ok (.istore_n 2, 1) := by decide +kernel
theorem dX0_rowsToldBy_25 : decode cX0_rowsToldBy 25 = .ok (.iinc 3 1, 3) := by decide +kernel
theorem dX0_rowsToldBy_28 : decode cX0_rowsToldBy 28 = .ok (.goto (-24), 3) := by decide +kernel
theorem dX0_rowsToldBy_31 : decode cX0_rowsToldBy 31 = .ok (.iload_n 2, 1) := by decide +kernel
theorem dX0_rowsToldBy_32 : decode cX0_rowsToldBy 32 = .ok (.ireturn, 1) := by decide +kernel
theorem dX0_pairsTold_0 : decode cX0_pairsTold 0 = .ok (.iconst 0, 1) := by decide +kernel
theorem dX0_pairsTold_1 : decode cX0_pairsTold 1 = .ok (.istore_n 1, 1) := by decide +kernel
theorem dX0_pairsTold_2 : decode cX0_pairsTold 2 = .ok (.iconst 0, 1) := by decide +kernel
theorem dX0_pairsTold_3 : decode cX0_pairsTold 3 = .ok (.istore_n 2, 1) := by decide +kernel
theorem dX0_pairsTold_4 : decode cX0_pairsTold 4 = .ok (.iload_n 2, 1) := by decide +kernel
theorem dX0_pairsTold_5 : decode cX0_pairsTold 5 = .ok (.bipush 9, 2) := by decide +kernel
theorem dX0_pairsTold_7 : decode cX0_pairsTold 7 = .ok (.if_icmp .ge 21, 3) := by decide +kernel
theorem dX0_pairsTold_10 : decode cX0_pairsTold 10 = .ok (.aload_n 0, 1) := by decide +kernel
theorem dX0_pairsTold_11 : decode cX0_pairsTold 11 = .ok (.getfield 42, 3) := by decide +kernel
theorem dX0_pairsTold_14 : decode cX0_pairsTold 14 = .ok (.iload_n 2, 1) := by decide +kernel
theorem dX0_pairsTold_15 : decode cX0_pairsTold 15 = .ok (.iaload, 1) := by decide +kernel
theorem dX0_pairsTold_16 : decode cX0_pairsTold 16 = .ok (.ifCond .le 6, 3) := by decide +kernel
theorem dX0_pairsTold_19 : decode cX0_pairsTold 19 = .ok (.iinc 1 1, 3) := by decide +kernel
theorem dX0_pairsTold_22 : decode cX0_pairsTold 22 = .ok (.iinc 2 1, 3) := by decide +kernel
theorem dX0_pairsTold_25 : decode cX0_pairsTold 25 = .ok (.goto (-21), 3) := by decide +kernel
theorem dX0_pairsTold_28 : decode cX0_pairsTold 28 = .ok (.iload_n 1, 1) := by decide +kernel
theorem dX0_pairsTold_29 : decode cX0_pairsTold 29 = .ok (.ireturn, 1) := by decide +kernel
theorem dX0_cellsOfLevel_0 : decode cX0_cellsOfLevel 0 = .ok (.iconst 0, 1) := by decide +kernel
theorem dX0_cellsOfLevel_1 : decode cX0_cellsOfLevel 1 = .ok (.istore_n 2, 1) := by decide +kernel
theorem dX0_cellsOfLevel_2 : decode cX0_cellsOfLevel 2 = .ok (.iconst 0, 1) := by decide +kernel
theorem dX0_cellsOfLevel_3 : decode cX0_cellsOfLevel 3 = .ok (.istore_n 3, 1) := by decide +kernel
theorem dX0_cellsOfLevel_4 : decode cX0_cellsOfLevel 4 = .ok (.iload_n 3, 1) := by decide +kernel
theorem dX0_cellsOfLevel_5 : decode cX0_cellsOfLevel 5 = .ok (.bipush 48, 2) := by decide +kernel
theorem dX0_cellsOfLevel_7 : decode cX0_cellsOfLevel 7 = .ok (.if_icmp .ge 22, 3) := by decide +kernel
theorem dX0_cellsOfLevel_10 : decode cX0_cellsOfLevel 10 = .ok (.aload_n 0, 1) := by decide +kernel
theorem dX0_cellsOfLevel_11 : decode cX0_cellsOfLevel 11 = .ok (.getfield 9, 3) := by decide +kernel
theorem dX0_cellsOfLevel_14 : decode cX0_cellsOfLevel 14 = .ok (.iload_n 3, 1) := by decide +kernel
theorem dX0_cellsOfLevel_15 : decode cX0_cellsOfLevel 15 = .ok (.iaload, 1) := by decide +kernel
theorem dX0_cellsOfLevel_16 : decode cX0_cellsOfLevel 16 = .ok (.iload_n 1, 1) := by decide +kernel
theorem dX0_cellsOfLevel_17 : decode cX0_cellsOfLevel 17 = .ok (.if_icmp .ne 6, 3) := by decide +kernel
theorem dX0_cellsOfLevel_20 : decode cX0_cellsOfLevel 20 = .ok (.iinc 2 1, 3) := by decide +kernel
theorem dX0_cellsOfLevel_23 : decode cX0_cellsOfLevel 23 = .ok (.iinc 3 1, 3) := by decide +kernel
theorem dX0_cellsOfLevel_26 : decode cX0_cellsOfLevel 26 = .ok (.goto (-22), 3) := by decide +kernel
theorem dX0_cellsOfLevel_29 : decode cX0_cellsOfLevel 29 = .ok (.iload_n 2, 1) := by decide +kernel
theorem dX0_cellsOfLevel_30 : decode cX0_cellsOfLevel 30 = .ok (.ireturn, 1) := by decide +kernel
theorem dX0_sum_0 : decode cX0_sum 0 = .ok (.iconst 0, 1) := by decide +kernel
theorem dX0_sum_1 : decode cX0_sum 1 = .ok (.istore_n 1, 1) := by decide +kernel
theorem dX0_sum_2 : decode cX0_sum 2 = .ok (.iconst 0, 1) := by decide +kernel
theorem dX0_sum_3 : decode cX0_sum 3 = .ok (.istore_n 2, 1) := by decide +kernel
theorem dX0_sum_4 : decode cX0_sum 4 = .ok (.iload_n 2, 1) := by decide +kernel
theorem dX0_sum_5 : decode cX0_sum 5 = .ok (.aload_n 0, 1) := by decide +kernel
theorem dX0_sum_6 : decode cX0_sum 6 = .ok (.arraylength, 1) := by decide +kernel
theorem dX0_sum_7 : decode cX0_sum 7 = .ok (.if_icmp .ge 15, 3) := by decide +kernel
theorem dX0_sum_10 : decode cX0_sum 10 = .ok (.iload_n 1, 1) := by decide +kernel
theorem dX0_sum_11 : decode cX0_sum 11 = .ok (.aload_n 0, 1) := by decide +kernel
theorem dX0_sum_12 : decode cX0_sum 12 = .ok (.iload_n 2, 1) := by decide +kernel
theorem dX0_sum_13 : decode cX0_sum 13 = .ok (.iaload, 1) := by decide +kernel
theorem dX0_sum_14 : decode cX0_sum 14 = .ok (.iadd, 1) := by decide +kernel
theorem dX0_sum_15 : decode cX0_sum 15 = .ok (.istore_n 1, 1) := by decide +kernel
theorem dX0_sum_16 : decode cX0_sum 16 = .ok (.iinc 2 1, 3) := by decide +kernel
theorem dX0_sum_19 : decode cX0_sum 19 = .ok (.goto (-15), 3) := by decide +kernel
theorem dX0_sum_22 : decode cX0_sum 22 = .ok (.iload_n 1, 1) := by decide +kernel
theorem dX0_sum_23 : decode cX0_sum 23 = .ok (.ireturn, 1) := by decide +kernel
theorem dX0_isOutsideCell_0 : decode cX0_isOutsideCell 0 = .ok (.iload_n 0, 1) := by decide +kernel
theorem dX0_isOutsideCell_1 : decode cX0_isOutsideCell 1 = .ok (.iconst 0, 1) := by decide +kernel
theorem dX0_isOutsideCell_2 : decode cX0_isOutsideCell 2 = .ok (.iconst 5, 1) := by decide +kernel
theorem dX0_isOutsideCell_3 : decode cX0_isOutsideCell 3 = .ok (.invokestatic 70, 3) := by decide +kernel
theorem dX0_isOutsideCell_6 : decode cX0_isOutsideCell 6 = .ok (.ifCond .ne 13, 3) := by decide +kernel
theorem dX0_isOutsideCell_9 : decode cX0_isOutsideCell 9 = .ok (.iload_n 1, 1) := by decide +kernel
theorem dX0_isOutsideCell_10 : decode cX0_isOutsideCell 10 = .ok (.iconst 0, 1) := by decide +kernel
theorem dX0_isOutsideCell_11 : decode cX0_isOutsideCell 11 = .ok (.bipush 7, 2) := by decide +kernel
theorem dX0_isOutsideCell_13 : decode cX0_isOutsideCell 13 = .ok (.invokestatic 70, 3) := by decide +kernel
theorem dX0_isOutsideCell_16 : decode cX0_isOutsideCell 16 = .ok (.ifCond .eq 7, 3) := by decide +kernel
theorem dX0_isOutsideCell_19 : decode cX0_isOutsideCell 19 = .ok (.iconst 1, 1) := by decide +kernel
theorem dX0_isOutsideCell_20 : decode cX0_isOutsideCell 20 = .ok (.goto 4, 3) := by decide +kernel
theorem dX0_isOutsideCell_23 : decode cX0_isOutsideCell 23 = .ok (.iconst 0, 1) := by decide +kernel
theorem dX0_isOutsideCell_24 : decode cX0_isOutsideCell 24 = .ok (.ireturn, 1) := by decide +kernel
theorem dX0_isOutsideGuard_0 : decode cX0_isOutsideGuard 0 = .ok (.iload_n 0, 1) := by decide +kernel
theorem dX0_isOutsideGuard_1 : decode cX0_isOutsideGuard 1 = .ok (.iconst 0, 1) := by decide +kernel
theorem dX0_isOutsideGuard_2 : decode cX0_isOutsideGuard 2 = .ok (.iconst 5, 1) := by decide +kernel
theorem dX0_isOutsideGuard_3 : decode cX0_isOutsideGuard 3 = .ok (.invokestatic 70, 3) := by decide +kernel
theorem dX0_isOutsideGuard_6 : decode cX0_isOutsideGuard 6 = .ok (.ifCond .ne 12, 3) := by decide +kernel
theorem dX0_isOutsideGuard_9 : decode cX0_isOutsideGuard 9 = .ok (.iload_n 1, 1) := by decide +kernel
theorem dX0_isOutsideGuard_10 : decode cX0_isOutsideGuard 10 = .ok (.iconst 0, 1) := by decide +kernel
theorem dX0_isOutsideGuard_11 : decode cX0_isOutsideGuard 11 = .ok (.iconst 2, 1) := by decide +kernel
theorem dX0_isOutsideGuard_12 : decode cX0_isOutsideGuard 12 = .ok (.invokestatic 70, 3) := by decide +kernel
theorem dX0_isOutsideGuard_15 : decode cX0_isOutsideGuard 15 = .ok (.ifCond .eq 7, 3) := by decide +kernel
theorem dX0_isOutsideGuard_18 : decode cX0_isOutsideGuard 18 = .ok (.iconst 1, 1) := by decide +kernel
theorem dX0_isOutsideGuard_19 : decode cX0_isOutsideGuard 19 = .ok (.goto 4, 3) := by decide +kernel
theorem dX0_isOutsideGuard_22 : decode cX0_isOutsideGuard 22 = .ok (.iconst 0, 1) := by decide +kernel
theorem dX0_isOutsideGuard_23 : decode cX0_isOutsideGuard 23 = .ok (.ireturn, 1) := by decide +kernel
theorem dX0_isOutsideSetting_0 : decode cX0_isOutsideSetting 0 = .ok (.iload_n 0, 1) := by decide +kernel
theorem dX0_isOutsideSetting_1 : decode cX0_isOutsideSetting 1 = .ok (.lookupswitch 47 #[(0, 27), (1, 38)], 27) := by decide +kernel
theorem dX0_isOutsideSetting_28 : decode cX0_isOutsideSetting 28 = .ok (.iload_n 1, 1) := by decide +kernel
theorem dX0_isOutsideSetting_29 : decode cX0_isOutsideSetting 29 = .ok (.sipush 300, 3) := by decide +kernel
theorem dX0_isOutsideSetting_32 : decode cX0_isOutsideSetting 32 = .ok (.sipush 700, 3) := by decide +kernel
theorem dX0_isOutsideSetting_35 : decode cX0_isOutsideSetting 35 = .ok (.invokestatic 70, 3) := by decide +kernel
theorem dX0_isOutsideSetting_38 : decode cX0_isOutsideSetting 38 = .ok (.ireturn, 1) := by decide +kernel
theorem dX0_isOutsideSetting_39 : decode cX0_isOutsideSetting 39 = .ok (.iload_n 1, 1) := by decide +kernel
theorem dX0_isOutsideSetting_40 : decode cX0_isOutsideSetting 40 = .ok (.iconst 1, 1) := by decide +kernel
theorem dX0_isOutsideSetting_41 : decode cX0_isOutsideSetting 41 = .ok (.sipush 300, 3) := by decide +kernel
theorem dX0_isOutsideSetting_44 : decode cX0_isOutsideSetting 44 = .ok (.invokestatic 70, 3) := by decide +kernel
theorem dX0_isOutsideSetting_47 : decode cX0_isOutsideSetting 47 = .ok (.ireturn, 1) := by decide +kernel
theorem dX0_isOutsideSetting_48 : decode cX0_isOutsideSetting 48 = .ok (.iload_n 1, 1) := by decide +kernel
theorem dX0_isOutsideSetting_49 : decode cX0_isOutsideSetting 49 = .ok (.iconst 0, 1) := by decide +kernel
theorem dX0_isOutsideSetting_50 : decode cX0_isOutsideSetting 50 = .ok (.bipush 99, 2) := by decide +kernel
theorem dX0_isOutsideSetting_52 : decode cX0_isOutsideSetting 52 = .ok (.invokestatic 70, 3) := by decide +kernel
theorem dX0_isOutsideSetting_55 : decode cX0_isOutsideSetting 55 = .ok (.ireturn, 1) := by decide +kernel
theorem dX1_init_0 : decode cX1_init 0 = .ok (.aload_n 0, 1) := by decide +kernel
theorem dX1_init_1 : decode cX1_init 1 = .ok (.invokespecial 3, 3) := by decide +kernel
theorem dX1_init_4 : decode cX1_init 4 = .ok (.aload_n 0, 1) := by decide +kernel
theorem dX1_init_5 : decode cX1_init 5 = .ok (.bipush 60, 2) := by decide +kernel
theorem dX1_init_7 : decode cX1_init 7 = .ok (.newarray .char, 2) := by decide +kernel
theorem dX1_init_9 : decode cX1_init 9 = .ok (.putfield 9, 3) := by decide +kernel
theorem dX1_init_12 : decode cX1_init 12 = .ok (.aload_n 0, 1) := by decide +kernel
theorem dX1_init_13 : decode cX1_init 13 = .ok (.iconst 3, 1) := by decide +kernel
theorem dX1_init_14 : decode cX1_init 14 = .ok (.newarray .int, 2) := by decide +kernel
theorem dX1_init_16 : decode cX1_init 16 = .ok (.putfield 15, 3) := by decide +kernel
theorem dX1_init_19 : decode cX1_init 19 = .ok (.return_, 1) := by decide +kernel
theorem dX1_size_0 : decode cX1_size 0 = .ok (.aload_n 0, 1) := by decide +kernel
theorem dX1_size_1 : decode cX1_size 1 = .ok (.getfield 19, 3) := by decide +kernel
theorem dX1_size_4 : decode cX1_size 4 = .ok (.ireturn, 1) := by decide +kernel
theorem dX1_append_0 : decode cX1_append 0 = .ok (.iload_n 1, 1) := by decide +kernel
theorem dX1_append_1 : decode cX1_append 1 = .ok (.bipush 32, 2) := by decide +kernel
theorem dX1_append_3 : decode cX1_append 3 = .ok (.bipush 126, 2) := by decide +kernel
theorem dX1_append_5 : decode cX1_append 5 = .ok (.invokestatic 23, 3) := by decide +kernel
theorem dX1_append_8 : decode cX1_append 8 = .ok (.ifCond .eq 6, 3) := by decide +kernel
theorem dX1_append_11 : decode cX1_append 11 = .ok (.ldc 27, 2) := by decide +kernel
theorem dX1_append_13 : decode cX1_append 13 = .ok (.ireturn, 1) := by decide +kernel
theorem dX1_append_14 : decode cX1_append 14 = .ok (.aload_n 0, 1) := by decide +kernel
theorem dX1_append_15 : decode cX1_append 15 = .ok (.getfield 19, 3) := by decide +kernel
theorem dX1_append_18 : decode cX1_append 18 = .ok (.bipush 60, 2) := by decide +kernel
theorem dX1_append_20 : decode cX1_append 20 = .ok (.if_icmp .lt 6, 3) := by decide +kernel
theorem dX1_append_23 : decode cX1_append 23 = .ok (.ldc 28, 2) := by decide +kernel
theorem dX1_append_25 : decode cX1_append 25 = .ok (.ireturn, 1) := by decide +kernel
theorem dX1_append_26 : decode cX1_append 26 = .ok (.aload_n 0, 1) := by decide +kernel
theorem dX1_append_27 : decode cX1_append 27 = .ok (.getfield 9, 3) := by decide +kernel
theorem dX1_append_30 : decode cX1_append 30 = .ok (.aload_n 0, 1) := by decide +kernel
theorem dX1_append_31 : decode cX1_append 31 = .ok (.getfield 19, 3) := by decide +kernel
theorem dX1_append_34 : decode cX1_append 34 = .ok (.iload_n 1, 1) := by decide +kernel
theorem dX1_append_35 : decode cX1_append 35 = .ok (.i2c, 1) := by decide +kernel
theorem dX1_append_36 : decode cX1_append 36 = .ok (.castore, 1) := by decide +kernel
theorem dX1_append_37 : decode cX1_append 37 = .ok (.aload_n 0, 1) := by decide +kernel
theorem dX1_append_38 : decode cX1_append 38 = .ok (.dup, 1) := by decide +kernel
theorem dX1_append_39 : decode cX1_append 39 = .ok (.getfield 19, 3) := by decide +kernel
theorem dX1_append_42 : decode cX1_append 42 = .ok (.iconst 1, 1) := by decide +kernel
theorem dX1_append_43 : decode cX1_append 43 = .ok (.iadd, 1) := by decide +kernel
theorem dX1_append_44 : decode cX1_append 44 = .ok (.putfield 19, 3) := by decide +kernel
theorem dX1_append_47 : decode cX1_append 47 = .ok (.aload_n 0, 1) := by decide +kernel
theorem dX1_append_48 : decode cX1_append 48 = .ok (.getfield 19, 3) := by decide +kernel
theorem dX1_append_51 : decode cX1_append 51 = .ok (.ireturn, 1) := by decide +kernel
theorem dX1_empty_0 : decode cX1_empty 0 = .ok (.aload_n 0, 1) := by decide +kernel
theorem dX1_empty_1 : decode cX1_empty 1 = .ok (.getfield 19, 3) := by decide +kernel
theorem dX1_empty_4 : decode cX1_empty 4 = .ok (.istore_n 1, 1) := by decide +kernel
theorem dX1_empty_5 : decode cX1_empty 5 = .ok (.aload_n 0, 1) := by decide +kernel
theorem dX1_empty_6 : decode cX1_empty 6 = .ok (.iconst 0, 1) := by decide +kernel
theorem dX1_empty_7 : decode cX1_empty 7 = .ok (.putfield 19, 3) := by decide +kernel
theorem dX1_empty_10 : decode cX1_empty 10 = .ok (.iload_n 1, 1) := by decide +kernel
theorem dX1_empty_11 : decode cX1_empty 11 = .ok (.ireturn, 1) := by decide +kernel
theorem dX1_placeReached_0 : decode cX1_placeReached 0 = .ok (.aload_n 0, 1) := by decide +kernel
theorem dX1_placeReached_1 : decode cX1_placeReached 1 = .ok (.getfield 29, 3) := by decide +kernel
theorem dX1_placeReached_4 : decode cX1_placeReached 4 = .ok (.ireturn, 1) := by decide +kernel
theorem dX1_readOrder_0 : decode cX1_readOrder 0 = .ok (.aload_n 0, 1) := by decide +kernel
theorem dX1_readOrder_1 : decode cX1_readOrder 1 = .ok (.iload_n 1, 1) := by decide +kernel
theorem dX1_readOrder_2 : decode cX1_readOrder 2 = .ok (.putfield 29, 3) := by decide +kernel
theorem dX1_readOrder_5 : decode cX1_readOrder 5 = .ok (.aload_n 0, 1) := by decide +kernel
theorem dX1_readOrder_6 : decode cX1_readOrder 6 = .ok (.aload_n 0, 1) := by decide +kernel
theorem dX1_readOrder_7 : decode cX1_readOrder 7 = .ok (.iload_n 1, 1) := by decide +kernel
theorem dX1_readOrder_8 : decode cX1_readOrder 8 = .ok (.invokevirtual 32, 3) := by decide +kernel
theorem dX1_readOrder_11 : decode cX1_readOrder 11 = .ok (.putfield 36, 3) := by decide +kernel
theorem dX1_readOrder_14 : decode cX1_readOrder 14 = .ok (.aload_n 0, 1) := by decide +kernel
theorem dX1_readOrder_15 : decode cX1_readOrder 15 = .ok (.getfield 36, 3) := by decide +kernel
theorem dX1_readOrder_18 : decode cX1_readOrder 18 = .ok (.invokestatic 40, 3) := by decide +kernel
theorem dX1_readOrder_21 : decode cX1_readOrder 21 = .ok (.istore_n 2, 1) := by decide +kernel
theorem dX1_readOrder_22 : decode cX1_readOrder 22 = .ok (.iload_n 2, 1) := by decide +kernel
theorem dX1_readOrder_23 : decode cX1_readOrder 23 = .ok (.ifCond .ne 5, 3) := by decide +kernel
theorem dX1_readOrder_26 : decode cX1_readOrder 26 = .ok (.iconst 0, 1) := by decide +kernel
theorem dX1_readOrder_27 : decode cX1_readOrder 27 = .ok (.ireturn, 1) := by decide +kernel
theorem dX1_readOrder_28 : decode cX1_readOrder 28 = .ok (.aload_n 0, 1) := by decide +kernel
theorem dX1_readOrder_29 : decode cX1_readOrder 29 = .ok (.dup, 1) := by decide +kernel
theorem dX1_readOrder_30 : decode cX1_readOrder 30 = .ok (.getfield 29, 3) := by decide +kernel
theorem dX1_readOrder_33 : decode cX1_readOrder 33 = .ok (.iconst 1, 1) := by decide +kernel
theorem dX1_readOrder_34 : decode cX1_readOrder 34 = .ok (.iadd, 1) := by decide +kernel
theorem dX1_readOrder_35 : decode cX1_readOrder 35 = .ok (.putfield 29, 3) := by decide +kernel
theorem dX1_readOrder_38 : decode cX1_readOrder 38 = .ok (.iconst 0, 1) := by decide +kernel
theorem dX1_readOrder_39 : decode cX1_readOrder 39 = .ok (.istore_n 3, 1) := by decide +kernel
theorem dX1_readOrder_40 : decode cX1_readOrder 40 = .ok (.iload_n 3, 1) := by decide +kernel
theorem dX1_readOrder_41 : decode cX1_readOrder 41 = .ok (.iload_n 2, 1) := by decide +kernel
theorem dX1_readOrder_42 : decode cX1_readOrder 42 = .ok (.if_icmp .ge 60, 3) := by decide +kernel
theorem dX1_readOrder_45 : decode cX1_readOrder 45 = .ok (.aload_n 0, 1) := by decide +kernel
theorem dX1_readOrder_46 : decode cX1_readOrder 46 = .ok (.iload_n 3, 1) := by decide +kernel
theorem dX1_readOrder_47 : decode cX1_readOrder 47 = .ok (.invokevirtual 44, 3) := by decide +kernel
theorem dX1_readOrder_50 : decode cX1_readOrder 50 = .ok (.ifCond .ne 5, 3) := by decide +kernel
theorem dX1_readOrder_53 : decode cX1_readOrder 53 = .ok (.iconst 0, 1) := by decide +kernel
theorem dX1_readOrder_54 : decode cX1_readOrder 54 = .ok (.ireturn, 1) := by decide +kernel
theorem dX1_readOrder_55 : decode cX1_readOrder 55 = .ok (.iload_n 3, 1) := by decide +kernel
theorem dX1_readOrder_56 : decode cX1_readOrder 56 = .ok (.iload_n 2, 1) := by decide +kernel
theorem dX1_readOrder_57 : decode cX1_readOrder 57 = .ok (.iconst 1, 1) := by decide +kernel
theorem dX1_readOrder_58 : decode cX1_readOrder 58 = .ok (.isub, 1) := by decide +kernel
theorem dX1_readOrder_59 : decode cX1_readOrder 59 = .ok (.if_icmp .ge 8, 3) := by decide +kernel
theorem dX1_readOrder_62 : decode cX1_readOrder 62 = .ok (.bipush 44, 2) := by decide +kernel
theorem dX1_readOrder_64 : decode cX1_readOrder 64 = .ok (.goto 5, 3) := by decide +kernel
theorem dX1_readOrder_67 : decode cX1_readOrder 67 = .ok (.bipush 59, 2) := by decide +kernel
theorem dX1_readOrder_69 : decode cX1_readOrder 69 = .ok (.istore 4, 2) := by decide +kernel
theorem dX1_readOrder_71 : decode cX1_readOrder 71 = .ok (.aload_n 0, 1) := by decide +kernel
theorem dX1_readOrder_72 : decode cX1_readOrder 72 = .ok (.aload_n 0, 1) := by decide +kernel
theorem dX1_readOrder_73 : decode cX1_readOrder 73 = .ok (.getfield 29, 3) := by decide +kernel
theorem dX1_readOrder_76 : decode cX1_readOrder 76 = .ok (.invokevirtual 32, 3) := by decide +kernel
theorem dX1_readOrder_79 : decode cX1_readOrder 79 = .ok (.iload 4, 2) := by decide +kernel
theorem dX1_readOrder_81 : decode cX1_readOrder 81 = .ok (.if_icmp .eq 5, 3) := by decide +kernel
theorem dX1_readOrder_84 : decode cX1_readOrder 84 = .ok (.iconst 0, 1) := by decide +kernel
theorem dX1_readOrder_85 : decode cX1_readOrder 85 = .ok (.ireturn, 1) := by decide +kernel
theorem dX1_readOrder_86 : decode cX1_readOrder 86 = .ok (.aload_n 0, 1) := by decide +kernel
theorem dX1_readOrder_87 : decode cX1_readOrder 87 = .ok (.dup, 1) := by decide +kernel
theorem dX1_readOrder_88 : decode cX1_readOrder 88 = .ok (.getfield 29, 3) := by decide +kernel
theorem dX1_readOrder_91 : decode cX1_readOrder 91 = .ok (.iconst 1, 1) := by decide +kernel
theorem dX1_readOrder_92 : decode cX1_readOrder 92 = .ok (.iadd, 1) := by decide +kernel
theorem dX1_readOrder_93 : decode cX1_readOrder 93 = .ok (.putfield 29, 3) := by decide +kernel
theorem dX1_readOrder_96 : decode cX1_readOrder 96 = .ok (.iinc 3 1, 3) := by decide +kernel
theorem dX1_readOrder_99 : decode cX1_readOrder 99 = .ok (.goto (-59), 3) := by decide +kernel
theorem dX1_readOrder_102 : decode cX1_readOrder 102 = .ok (.iconst 1, 1) := by decide +kernel
theorem dX1_readOrder_103 : decode cX1_readOrder 103 = .ok (.ireturn, 1) := by decide +kernel
theorem dX1_doOrder_0 : decode cX1_doOrder 0 = .ok (.aload_n 0, 1) := by decide +kernel
theorem dX1_doOrder_1 : decode cX1_doOrder 1 = .ok (.getfield 36, 3) := by decide +kernel
theorem dX1_doOrder_4 : decode cX1_doOrder 4 = .ok (.lookupswitch 165 #[(97, 83), (100, 151), (102, 94), (109, 117), (114, 134), (119, 60)], 60) := by decide +kernel
theorem dX1_doOrder_64 : decode cX1_doOrder 64 = .ok (.aload_n 1, 1) := by decide +kernel
theorem dX1_doOrder_65 : decode cX1_doOrder 65 = .ok (.aload_n 0, 1) := by decide +kernel
theorem dX1_doOrder_66 : decode cX1_doOrder 66 = .ok (.getfield 15, 3) := by decide +kernel
theorem dX1_doOrder_69 : decode cX1_doOrder 69 = .ok (.iconst 0, 1) := by decide +kernel
theorem dX1_doOrder_70 : decode cX1_doOrder 70 = .ok (.iaload, 1) := by decide +kernel
theorem dX1_doOrder_71 : decode cX1_doOrder 71 = .ok (.aload_n 0, 1) := by decide +kernel
theorem dX1_doOrder_72 : decode cX1_doOrder 72 = .ok (.getfield 15, 3) := by decide +kernel
theorem dX1_doOrder_75 : decode cX1_doOrder 75 = .ok (.iconst 1, 1) := by decide +kernel
theorem dX1_doOrder_76 : decode cX1_doOrder 76 = .ok (.iaload, 1) := by decide +kernel
theorem dX1_doOrder_77 : decode cX1_doOrder 77 = .ok (.aload_n 0, 1) := by decide +kernel
theorem dX1_doOrder_78 : decode cX1_doOrder 78 = .ok (.getfield 15, 3) := by decide +kernel
theorem dX1_doOrder_81 : decode cX1_doOrder 81 = .ok (.iconst 2, 1) := by decide +kernel
theorem dX1_doOrder_82 : decode cX1_doOrder 82 = .ok (.iaload, 1) := by decide +kernel
theorem dX1_doOrder_83 : decode cX1_doOrder 83 = .ok (.invokevirtual 48, 3) := by decide +kernel
theorem dX1_doOrder_86 : decode cX1_doOrder 86 = .ok (.ireturn, 1) := by decide +kernel
theorem dX1_doOrder_87 : decode cX1_doOrder 87 = .ok (.aload_n 1, 1) := by decide +kernel
theorem dX1_doOrder_88 : decode cX1_doOrder 88 = .ok (.aload_n 0, 1) := by decide +kernel
theorem dX1_doOrder_89 : decode cX1_doOrder 89 = .ok (.getfield 15, 3) := by decide +kernel
theorem dX1_doOrder_92 : decode cX1_doOrder 92 = .ok (.iconst 0, 1) := by decide +kernel
theorem dX1_doOrder_93 : decode cX1_doOrder 93 = .ok (.iaload, 1) := by decide +kernel
theorem dX1_doOrder_94 : decode cX1_doOrder 94 = .ok (.invokevirtual 54, 3) := by decide +kernel
theorem dX1_doOrder_97 : decode cX1_doOrder 97 = .ok (.ireturn, 1) := by decide +kernel
theorem dX1_doOrder_98 : decode cX1_doOrder 98 = .ok (.aload_n 1, 1) := by decide +kernel
theorem dX1_doOrder_99 : decode cX1_doOrder 99 = .ok (.aload_n 0, 1) := by decide +kernel
theorem dX1_doOrder_100 : decode cX1_doOrder 100 = .ok (.getfield 15, 3) := by decide +kernel
theorem dX1_doOrder_103 : decode cX1_doOrder 103 = .ok (.iconst 0, 1) := by decide +kernel
theorem dX1_doOrder_104 : decode cX1_doOrder 104 = .ok (.iaload, 1) := by decide +kernel
theorem dX1_doOrder_105 : decode cX1_doOrder 105 = .ok (.aload_n 0, 1) := by decide +kernel
theorem dX1_doOrder_106 : decode cX1_doOrder 106 = .ok (.getfield 15, 3) := by decide +kernel
theorem dX1_doOrder_109 : decode cX1_doOrder 109 = .ok (.iconst 1, 1) := by decide +kernel
theorem dX1_doOrder_110 : decode cX1_doOrder 110 = .ok (.iaload, 1) := by decide +kernel
theorem dX1_doOrder_111 : decode cX1_doOrder 111 = .ok (.aload_n 0, 1) := by decide +kernel
theorem dX1_doOrder_112 : decode cX1_doOrder 112 = .ok (.getfield 15, 3) := by decide +kernel
theorem dX1_doOrder_115 : decode cX1_doOrder 115 = .ok (.iconst 2, 1) := by decide +kernel
theorem dX1_doOrder_116 : decode cX1_doOrder 116 = .ok (.iaload, 1) := by decide +kernel
theorem dX1_doOrder_117 : decode cX1_doOrder 117 = .ok (.invokevirtual 58, 3) := by decide +kernel
theorem dX1_doOrder_120 : decode cX1_doOrder 120 = .ok (.ireturn, 1) := by decide +kernel
theorem dX1_doOrder_121 : decode cX1_doOrder 121 = .ok (.aload_n 1, 1) := by decide +kernel
theorem dX1_doOrder_122 : decode cX1_doOrder 122 = .ok (.aload_n 0, 1) := by decide +kernel
theorem dX1_doOrder_123 : decode cX1_doOrder 123 = .ok (.getfield 15, 3) := by decide +kernel
theorem dX1_doOrder_126 : decode cX1_doOrder 126 = .ok (.iconst 0, 1) := by decide +kernel
theorem dX1_doOrder_127 : decode cX1_doOrder 127 = .ok (.iaload, 1) := by decide +kernel
theorem dX1_doOrder_128 : decode cX1_doOrder 128 = .ok (.aload_n 0, 1) := by decide +kernel
theorem dX1_doOrder_129 : decode cX1_doOrder 129 = .ok (.getfield 15, 3) := by decide +kernel
theorem dX1_doOrder_132 : decode cX1_doOrder 132 = .ok (.iconst 1, 1) := by decide +kernel
theorem dX1_doOrder_133 : decode cX1_doOrder 133 = .ok (.iaload, 1) := by decide +kernel
theorem dX1_doOrder_134 : decode cX1_doOrder 134 = .ok (.invokevirtual 61, 3) := by decide +kernel
theorem dX1_doOrder_137 : decode cX1_doOrder 137 = .ok (.ireturn, 1) := by decide +kernel
theorem dX1_doOrder_138 : decode cX1_doOrder 138 = .ok (.aload_n 1, 1) := by decide +kernel
theorem dX1_doOrder_139 : decode cX1_doOrder 139 = .ok (.aload_n 0, 1) := by decide +kernel
theorem dX1_doOrder_140 : decode cX1_doOrder 140 = .ok (.getfield 15, 3) := by decide +kernel
theorem dX1_doOrder_143 : decode cX1_doOrder 143 = .ok (.iconst 0, 1) := by decide +kernel
theorem dX1_doOrder_144 : decode cX1_doOrder 144 = .ok (.iaload, 1) := by decide +kernel
theorem dX1_doOrder_145 : decode cX1_doOrder 145 = .ok (.aload_n 0, 1) := by decide +kernel
theorem dX1_doOrder_146 : decode cX1_doOrder 146 = .ok (.getfield 15, 3) := by decide +kernel
theorem dX1_doOrder_149 : decode cX1_doOrder 149 = .ok (.iconst 1, 1) := by decide +kernel
theorem dX1_doOrder_150 : decode cX1_doOrder 150 = .ok (.iaload, 1) := by decide +kernel
theorem dX1_doOrder_151 : decode cX1_doOrder 151 = .ok (.invokevirtual 65, 3) := by decide +kernel
theorem dX1_doOrder_154 : decode cX1_doOrder 154 = .ok (.ireturn, 1) := by decide +kernel
theorem dX1_doOrder_155 : decode cX1_doOrder 155 = .ok (.aload_n 1, 1) := by decide +kernel
theorem dX1_doOrder_156 : decode cX1_doOrder 156 = .ok (.aload_n 0, 1) := by decide +kernel
theorem dX1_doOrder_157 : decode cX1_doOrder 157 = .ok (.getfield 15, 3) := by decide +kernel
theorem dX1_doOrder_160 : decode cX1_doOrder 160 = .ok (.iconst 0, 1) := by decide +kernel
theorem dX1_doOrder_161 : decode cX1_doOrder 161 = .ok (.iaload, 1) := by decide +kernel
theorem dX1_doOrder_162 : decode cX1_doOrder 162 = .ok (.sipush 9999, 3) := by decide +kernel
theorem dX1_doOrder_165 : decode cX1_doOrder 165 = .ok (.invokevirtual 68, 3) := by decide +kernel
theorem dX1_doOrder_168 : decode cX1_doOrder 168 = .ok (.ireturn, 1) := by decide +kernel
theorem dX1_doOrder_169 : decode cX1_doOrder 169 = .ok (.ldc 27, 2) := by decide +kernel
theorem dX1_doOrder_171 : decode cX1_doOrder 171 = .ok (.ireturn, 1) := by decide +kernel
theorem dX1_numbersOf_0 : decode cX1_numbersOf 0 = .ok (.iload_n 0, 1) := by decide +kernel
theorem dX1_numbersOf_1 : decode cX1_numbersOf 1 = .ok (.lookupswitch 65 #[(97, 63), (100, 63), (102, 59), (109, 61), (114, 61), (119, 59)], 59) := by decide +kernel
theorem dX1_numbersOf_60 : decode cX1_numbersOf 60 = .ok (.iconst 3, 1) := by decide +kernel
theorem dX1_numbersOf_61 : decode cX1_numbersOf 61 = .ok (.ireturn, 1) := by decide +kernel
theorem dX1_numbersOf_62 : decode cX1_numbersOf 62 = .ok (.iconst 2, 1) := by decide +kernel
theorem dX1_numbersOf_63 : decode cX1_numbersOf 63 = .ok (.ireturn, 1) := by decide +kernel
theorem dX1_numbersOf_64 : decode cX1_numbersOf 64 = .ok (.iconst 1, 1) := by decide +kernel
theorem dX1_numbersOf_65 : decode cX1_numbersOf 65 = .ok (.ireturn, 1) := by decide +kernel
theorem dX1_numbersOf_66 : decode cX1_numbersOf 66 = .ok (.iconst 0, 1) := by decide +kernel
theorem dX1_numbersOf_67 : decode cX1_numbersOf 67 = .ok (.ireturn, 1) := by decide +kernel
theorem dX1_readNumber_0 : decode cX1_readNumber 0 = .ok (.iconst 0, 1) := by decide +kernel
theorem dX1_readNumber_1 : decode cX1_readNumber 1 = .ok (.istore_n 2, 1) := by decide +kernel
theorem dX1_readNumber_2 : decode cX1_readNumber 2 = .ok (.iconst 0, 1) := by decide +kernel
theorem dX1_readNumber_3 : decode cX1_readNumber 3 = .ok (.istore_n 3, 1) := by decide +kernel
theorem dX1_readNumber_4 : decode cX1_readNumber 4 = .ok (.iload_n 3, 1) := by decide +kernel
theorem dX1_readNumber_5 : decode cX1_readNumber 5 = .ok (.iconst 3, 1) := by decide +kernel
theorem dX1_readNumber_6 : decode cX1_readNumber 6 = .ok (.if_icmp .ge 50, 3) := by decide +kernel
theorem dX1_readNumber_9 : decode cX1_readNumber 9 = .ok (.aload_n 0, 1) := by decide +kernel
theorem dX1_readNumber_10 : decode cX1_readNumber 10 = .ok (.aload_n 0, 1) := by decide +kernel
theorem dX1_readNumber_11 : decode cX1_readNumber 11 = .ok (.getfield 29, 3) := by decide +kernel
theorem dX1_readNumber_14 : decode cX1_readNumber 14 = .ok (.invokevirtual 32, 3) := by decide +kernel
theorem dX1_readNumber_17 : decode cX1_readNumber 17 = .ok (.invokestatic 71, 3) := by decide +kernel
theorem dX1_readNumber_20 : decode cX1_readNumber 20 = .ok (.ifCond .eq 36, 3) := by decide +kernel
theorem dX1_readNumber_23 : decode cX1_readNumber 23 = .ok (.bipush 10, 2) := by decide +kernel
theorem dX1_readNumber_25 : decode cX1_readNumber 25 = .ok (.iload_n 2, 1) := by decide +kernel
theorem dX1_readNumber_26 : decode cX1_readNumber 26 = .ok (.imul, 1) := by decide +kernel
theorem dX1_readNumber_27 : decode cX1_readNumber 27 = .ok (.aload_n 0, 1) := by decide +kernel
theorem dX1_readNumber_28 : decode cX1_readNumber 28 = .ok (.aload_n 0, 1) := by decide +kernel
theorem dX1_readNumber_29 : decode cX1_readNumber 29 = .ok (.getfield 29, 3) := by decide +kernel
theorem dX1_readNumber_32 : decode cX1_readNumber 32 = .ok (.invokevirtual 32, 3) := by decide +kernel
theorem dX1_readNumber_35 : decode cX1_readNumber 35 = .ok (.bipush 48, 2) := by decide +kernel
theorem dX1_readNumber_37 : decode cX1_readNumber 37 = .ok (.isub, 1) := by decide +kernel
theorem dX1_readNumber_38 : decode cX1_readNumber 38 = .ok (.iadd, 1) := by decide +kernel
theorem dX1_readNumber_39 : decode cX1_readNumber 39 = .ok (.istore_n 2, 1) := by decide +kernel
theorem dX1_readNumber_40 : decode cX1_readNumber 40 = .ok (.aload_n 0, 1) := by decide +kernel
theorem dX1_readNumber_41 : decode cX1_readNumber 41 = .ok (.dup, 1) := by decide +kernel
theorem dX1_readNumber_42 : decode cX1_readNumber 42 = .ok (.getfield 29, 3) := by decide +kernel
theorem dX1_readNumber_45 : decode cX1_readNumber 45 = .ok (.iconst 1, 1) := by decide +kernel
theorem dX1_readNumber_46 : decode cX1_readNumber 46 = .ok (.iadd, 1) := by decide +kernel
theorem dX1_readNumber_47 : decode cX1_readNumber 47 = .ok (.putfield 29, 3) := by decide +kernel
theorem dX1_readNumber_50 : decode cX1_readNumber 50 = .ok (.iinc 3 1, 3) := by decide +kernel
theorem dX1_readNumber_53 : decode cX1_readNumber 53 = .ok (.goto (-49), 3) := by decide +kernel
theorem dX1_readNumber_56 : decode cX1_readNumber 56 = .ok (.iload_n 3, 1) := by decide +kernel
theorem dX1_readNumber_57 : decode cX1_readNumber 57 = .ok (.ifCond .eq 12, 3) := by decide +kernel
theorem dX1_readNumber_60 : decode cX1_readNumber 60 = .ok (.iload_n 1, 1) := by decide +kernel
theorem dX1_readNumber_61 : decode cX1_readNumber 61 = .ok (.iconst 0, 1) := by decide +kernel
theorem dX1_readNumber_62 : decode cX1_readNumber 62 = .ok (.iconst 2, 1) := by decide +kernel
theorem dX1_readNumber_63 : decode cX1_readNumber 63 = .ok (.invokestatic 23, 3) := by decide +kernel
theorem dX1_readNumber_66 : decode cX1_readNumber 66 = .ok (.ifCond .eq 5, 3) := by decide +kernel
theorem dX1_readNumber_69 : decode cX1_readNumber 69 = .ok (.iconst 0, 1) := by decide +kernel
theorem dX1_readNumber_70 : decode cX1_readNumber 70 = .ok (.ireturn, 1) := by decide +kernel
theorem dX1_readNumber_71 : decode cX1_readNumber 71 = .ok (.aload_n 0, 1) := by decide +kernel
theorem dX1_readNumber_72 : decode cX1_readNumber 72 = .ok (.getfield 15, 3) := by decide +kernel
theorem dX1_readNumber_75 : decode cX1_readNumber 75 = .ok (.iload_n 1, 1) := by decide +kernel
theorem dX1_readNumber_76 : decode cX1_readNumber 76 = .ok (.iload_n 2, 1) := by decide +kernel
theorem dX1_readNumber_77 : decode cX1_readNumber 77 = .ok (.iastore, 1) := by decide +kernel
theorem dX1_readNumber_78 : decode cX1_readNumber 78 = .ok (.iconst 1, 1) := by decide +kernel
theorem dX1_readNumber_79 : decode cX1_readNumber 79 = .ok (.ireturn, 1) := by decide +kernel
theorem dX1_signAt_0 : decode cX1_signAt 0 = .ok (.iload_n 1, 1) := by decide +kernel
theorem dX1_signAt_1 : decode cX1_signAt 1 = .ok (.iconst 0, 1) := by decide +kernel
theorem dX1_signAt_2 : decode cX1_signAt 2 = .ok (.aload_n 0, 1) := by decide +kernel
theorem dX1_signAt_3 : decode cX1_signAt 3 = .ok (.getfield 19, 3) := by decide +kernel
theorem dX1_signAt_6 : decode cX1_signAt 6 = .ok (.iconst 1, 1) := by decide +kernel
theorem dX1_signAt_7 : decode cX1_signAt 7 = .ok (.isub, 1) := by decide +kernel
theorem dX1_signAt_8 : decode cX1_signAt 8 = .ok (.invokestatic 23, 3) := by decide +kernel
theorem dX1_signAt_11 : decode cX1_signAt 11 = .ok (.ifCond .eq 7, 3) := by decide +kernel
theorem dX1_signAt_14 : decode cX1_signAt 14 = .ok (.iconst 0, 1) := by decide +kernel
theorem dX1_signAt_15 : decode cX1_signAt 15 = .ok (.goto 9, 3) := by decide +kernel
theorem dX1_signAt_18 : decode cX1_signAt 18 = .ok (.aload_n 0, 1) := by decide +kernel
theorem dX1_signAt_19 : decode cX1_signAt 19 = .ok (.getfield 9, 3) := by decide +kernel
theorem dX1_signAt_22 : decode cX1_signAt 22 = .ok (.iload_n 1, 1) := by decide +kernel
theorem dX1_signAt_23 : decode cX1_signAt 23 = .ok (.caload, 1) := by decide +kernel
theorem dX1_signAt_24 : decode cX1_signAt 24 = .ok (.ireturn, 1) := by decide +kernel
theorem dX1_isDigit_0 : decode cX1_isDigit 0 = .ok (.iload_n 0, 1) := by decide +kernel
theorem dX1_isDigit_1 : decode cX1_isDigit 1 = .ok (.bipush 48, 2) := by decide +kernel
theorem dX1_isDigit_3 : decode cX1_isDigit 3 = .ok (.if_icmp .lt 13, 3) := by decide +kernel
theorem dX1_isDigit_6 : decode cX1_isDigit 6 = .ok (.iload_n 0, 1) := by decide +kernel
theorem dX1_isDigit_7 : decode cX1_isDigit 7 = .ok (.bipush 57, 2) := by decide +kernel
theorem dX1_isDigit_9 : decode cX1_isDigit 9 = .ok (.if_icmp .gt 7, 3) := by decide +kernel
theorem dX1_isDigit_12 : decode cX1_isDigit 12 = .ok (.iconst 1, 1) := by decide +kernel
theorem dX1_isDigit_13 : decode cX1_isDigit 13 = .ok (.goto 4, 3) := by decide +kernel
theorem dX1_isDigit_16 : decode cX1_isDigit 16 = .ok (.iconst 0, 1) := by decide +kernel
theorem dX1_isDigit_17 : decode cX1_isDigit 17 = .ok (.ireturn, 1) := by decide +kernel
theorem dX2_init_0 : decode cX2_init 0 = .ok (.aload_n 0, 1) := by decide +kernel
theorem dX2_init_1 : decode cX2_init 1 = .ok (.invokespecial 3, 3) := by decide +kernel
theorem dX2_init_4 : decode cX2_init 4 = .ok (.aload_n 0, 1) := by decide +kernel
theorem dX2_init_5 : decode cX2_init 5 = .ok (.new 9, 3) := by decide +kernel
theorem dX2_init_8 : decode cX2_init 8 = .ok (.dup, 1) := by decide +kernel
theorem dX2_init_9 : decode cX2_init 9 = .ok (.invokespecial 11, 3) := by decide +kernel
theorem dX2_init_12 : decode cX2_init 12 = .ok (.putfield 12, 3) := by decide +kernel
theorem dX2_init_15 : decode cX2_init 15 = .ok (.aload_n 0, 1) := by decide +kernel
theorem dX2_init_16 : decode cX2_init 16 = .ok (.new 9, 3) := by decide +kernel
theorem dX2_init_19 : decode cX2_init 19 = .ok (.dup, 1) := by decide +kernel
theorem dX2_init_20 : decode cX2_init 20 = .ok (.invokespecial 11, 3) := by decide +kernel
theorem dX2_init_23 : decode cX2_init 23 = .ok (.putfield 16, 3) := by decide +kernel
theorem dX2_init_26 : decode cX2_init 26 = .ok (.aload_n 0, 1) := by decide +kernel
theorem dX2_init_27 : decode cX2_init 27 = .ok (.new 9, 3) := by decide +kernel
theorem dX2_init_30 : decode cX2_init 30 = .ok (.dup, 1) := by decide +kernel
theorem dX2_init_31 : decode cX2_init 31 = .ok (.invokespecial 11, 3) := by decide +kernel
theorem dX2_init_34 : decode cX2_init 34 = .ok (.putfield 19, 3) := by decide +kernel
theorem dX2_init_37 : decode cX2_init 37 = .ok (.aload_n 0, 1) := by decide +kernel
theorem dX2_init_38 : decode cX2_init 38 = .ok (.iconst 4, 1) := by decide +kernel
theorem dX2_init_39 : decode cX2_init 39 = .ok (.anewarray 9, 3) := by decide +kernel
theorem dX2_init_42 : decode cX2_init 42 = .ok (.putfield 22, 3) := by decide +kernel
theorem dX2_init_45 : decode cX2_init 45 = .ok (.iconst 0, 1) := by decide +kernel
theorem dX2_init_46 : decode cX2_init 46 = .ok (.istore_n 1, 1) := by decide +kernel
theorem dX2_init_47 : decode cX2_init 47 = .ok (.iload_n 1, 1) := by decide +kernel
theorem dX2_init_48 : decode cX2_init 48 = .ok (.iconst 4, 1) := by decide +kernel
theorem dX2_init_49 : decode cX2_init 49 = .ok (.if_icmp .ge 22, 3) := by decide +kernel
theorem dX2_init_52 : decode cX2_init 52 = .ok (.aload_n 0, 1) := by decide +kernel
theorem dX2_init_53 : decode cX2_init 53 = .ok (.getfield 22, 3) := by decide +kernel
theorem dX2_init_56 : decode cX2_init 56 = .ok (.iload_n 1, 1) := by decide +kernel
theorem dX2_init_57 : decode cX2_init 57 = .ok (.new 9, 3) := by decide +kernel
theorem dX2_init_60 : decode cX2_init 60 = .ok (.dup, 1) := by decide +kernel
theorem dX2_init_61 : decode cX2_init 61 = .ok (.invokespecial 11, 3) := by decide +kernel
theorem dX2_init_64 : decode cX2_init 64 = .ok (.aastore, 1) := by decide +kernel
theorem dX2_init_65 : decode cX2_init 65 = .ok (.iinc 1 1, 3) := by decide +kernel
theorem dX2_init_68 : decode cX2_init 68 = .ok (.goto (-21), 3) := by decide +kernel
theorem dX2_init_71 : decode cX2_init 71 = .ok (.aload_n 0, 1) := by decide +kernel
theorem dX2_init_72 : decode cX2_init 72 = .ok (.new 26, 3) := by decide +kernel
theorem dX2_init_75 : decode cX2_init 75 = .ok (.dup, 1) := by decide +kernel
theorem dX2_init_76 : decode cX2_init 76 = .ok (.invokespecial 28, 3) := by decide +kernel
theorem dX2_init_79 : decode cX2_init 79 = .ok (.putfield 29, 3) := by decide +kernel
theorem dX2_init_82 : decode cX2_init 82 = .ok (.return_, 1) := by decide +kernel
theorem dX2_write_0 : decode cX2_write 0 = .ok (.aload_n 0, 1) := by decide +kernel
theorem dX2_write_1 : decode cX2_write 1 = .ok (.getfield 16, 3) := by decide +kernel
theorem dX2_write_4 : decode cX2_write 4 = .ok (.aload_n 0, 1) := by decide +kernel
theorem dX2_write_5 : decode cX2_write 5 = .ok (.getfield 12, 3) := by decide +kernel
theorem dX2_write_8 : decode cX2_write 8 = .ok (.invokevirtual 33, 3) := by decide +kernel
theorem dX2_write_11 : decode cX2_write 11 = .ok (.aload_n 0, 1) := by decide +kernel
theorem dX2_write_12 : decode cX2_write 12 = .ok (.aload_n 0, 1) := by decide +kernel
theorem dX2_write_13 : decode cX2_write 13 = .ok (.getfield 12, 3) := by decide +kernel
theorem dX2_write_16 : decode cX2_write 16 = .ok (.iload_n 1, 1) := by decide +kernel
theorem dX2_write_17 : decode cX2_write 17 = .ok (.iload_n 2, 1) := by decide +kernel
theorem dX2_write_18 : decode cX2_write 18 = .ok (.iload_n 3, 1) := by decide +kernel
theorem dX2_write_19 : decode cX2_write 19 = .ok (.invokevirtual 37, 3) := by decide +kernel
theorem dX2_write_22 : decode cX2_write 22 = .ok (.invokevirtual 41, 3) := by decide +kernel
theorem dX2_write_25 : decode cX2_write 25 = .ok (.ireturn, 1) := by decide +kernel
theorem dX2_fill_0 : decode cX2_fill 0 = .ok (.aload_n 0, 1) := by decide +kernel
theorem dX2_fill_1 : decode cX2_fill 1 = .ok (.getfield 16, 3) := by decide +kernel
theorem dX2_fill_4 : decode cX2_fill 4 = .ok (.aload_n 0, 1) := by decide +kernel
theorem dX2_fill_5 : decode cX2_fill 5 = .ok (.getfield 12, 3) := by decide +kernel
theorem dX2_fill_8 : decode cX2_fill 8 = .ok (.invokevirtual 33, 3) := by decide +kernel
theorem dX2_fill_11 : decode cX2_fill 11 = .ok (.aload_n 0, 1) := by decide +kernel
theorem dX2_fill_12 : decode cX2_fill 12 = .ok (.aload_n 0, 1) := by decide +kernel
theorem dX2_fill_13 : decode cX2_fill 13 = .ok (.getfield 12, 3) := by decide +kernel
theorem dX2_fill_16 : decode cX2_fill 16 = .ok (.iload_n 1, 1) := by decide +kernel
theorem dX2_fill_17 : decode cX2_fill 17 = .ok (.iload_n 2, 1) := by decide +kernel
theorem dX2_fill_18 : decode cX2_fill 18 = .ok (.invokevirtual 45, 3) := by decide +kernel
theorem dX2_fill_21 : decode cX2_fill 21 = .ok (.invokevirtual 41, 3) := by decide +kernel
theorem dX2_fill_24 : decode cX2_fill 24 = .ok (.ireturn, 1) := by decide +kernel
theorem dX2_anew_0 : decode cX2_anew 0 = .ok (.aload_n 0, 1) := by decide +kernel
theorem dX2_anew_1 : decode cX2_anew 1 = .ok (.getfield 16, 3) := by decide +kernel
theorem dX2_anew_4 : decode cX2_anew 4 = .ok (.aload_n 0, 1) := by decide +kernel
theorem dX2_anew_5 : decode cX2_anew 5 = .ok (.getfield 12, 3) := by decide +kernel
theorem dX2_anew_8 : decode cX2_anew 8 = .ok (.invokevirtual 33, 3) := by decide +kernel
theorem dX2_anew_11 : decode cX2_anew 11 = .ok (.aload_n 0, 1) := by decide +kernel
theorem dX2_anew_12 : decode cX2_anew 12 = .ok (.aload_n 0, 1) := by decide +kernel
theorem dX2_anew_13 : decode cX2_anew 13 = .ok (.getfield 12, 3) := by decide +kernel
theorem dX2_anew_16 : decode cX2_anew 16 = .ok (.iload_n 1, 1) := by decide +kernel
theorem dX2_anew_17 : decode cX2_anew 17 = .ok (.invokevirtual 49, 3) := by decide +kernel
theorem dX2_anew_20 : decode cX2_anew 20 = .ok (.invokevirtual 41, 3) := by decide +kernel
theorem dX2_anew_23 : decode cX2_anew 23 = .ok (.ireturn, 1) := by decide +kernel
theorem dX2_ask_0 : decode cX2_ask 0 = .ok (.aload_n 0, 1) := by decide +kernel
theorem dX2_ask_1 : decode cX2_ask 1 = .ok (.getfield 16, 3) := by decide +kernel
theorem dX2_ask_4 : decode cX2_ask 4 = .ok (.aload_n 0, 1) := by decide +kernel
theorem dX2_ask_5 : decode cX2_ask 5 = .ok (.getfield 12, 3) := by decide +kernel
theorem dX2_ask_8 : decode cX2_ask 8 = .ok (.invokevirtual 33, 3) := by decide +kernel
theorem dX2_ask_11 : decode cX2_ask 11 = .ok (.aload_n 0, 1) := by decide +kernel
theorem dX2_ask_12 : decode cX2_ask 12 = .ok (.aload_n 0, 1) := by decide +kernel
theorem dX2_ask_13 : decode cX2_ask 13 = .ok (.getfield 12, 3) := by decide +kernel
theorem dX2_ask_16 : decode cX2_ask 16 = .ok (.iload_n 1, 1) := by decide +kernel
theorem dX2_ask_17 : decode cX2_ask 17 = .ok (.iload_n 2, 1) := by decide +kernel
theorem dX2_ask_18 : decode cX2_ask 18 = .ok (.invokevirtual 52, 3) := by decide +kernel
theorem dX2_ask_21 : decode cX2_ask 21 = .ok (.invokevirtual 41, 3) := by decide +kernel
theorem dX2_ask_24 : decode cX2_ask 24 = .ok (.ireturn, 1) := by decide +kernel
theorem dX2_fail_0 : decode cX2_fail 0 = .ok (.aload_n 0, 1) := by decide +kernel
theorem dX2_fail_1 : decode cX2_fail 1 = .ok (.getfield 16, 3) := by decide +kernel
theorem dX2_fail_4 : decode cX2_fail 4 = .ok (.aload_n 0, 1) := by decide +kernel
theorem dX2_fail_5 : decode cX2_fail 5 = .ok (.getfield 12, 3) := by decide +kernel
theorem dX2_fail_8 : decode cX2_fail 8 = .ok (.invokevirtual 33, 3) := by decide +kernel
theorem dX2_fail_11 : decode cX2_fail 11 = .ok (.aload_n 0, 1) := by decide +kernel
theorem dX2_fail_12 : decode cX2_fail 12 = .ok (.aload_n 0, 1) := by decide +kernel
theorem dX2_fail_13 : decode cX2_fail 13 = .ok (.getfield 12, 3) := by decide +kernel
theorem dX2_fail_16 : decode cX2_fail 16 = .ok (.iload_n 1, 1) := by decide +kernel
theorem dX2_fail_17 : decode cX2_fail 17 = .ok (.iload_n 2, 1) := by decide +kernel
theorem dX2_fail_18 : decode cX2_fail 18 = .ok (.iload_n 3, 1) := by decide +kernel
theorem dX2_fail_19 : decode cX2_fail 19 = .ok (.invokevirtual 55, 3) := by decide +kernel
theorem dX2_fail_22 : decode cX2_fail 22 = .ok (.invokevirtual 41, 3) := by decide +kernel
theorem dX2_fail_25 : decode cX2_fail 25 = .ok (.ireturn, 1) := by decide +kernel
theorem dX2_mend_0 : decode cX2_mend 0 = .ok (.aload_n 0, 1) := by decide +kernel
theorem dX2_mend_1 : decode cX2_mend 1 = .ok (.getfield 16, 3) := by decide +kernel
theorem dX2_mend_4 : decode cX2_mend 4 = .ok (.aload_n 0, 1) := by decide +kernel
theorem dX2_mend_5 : decode cX2_mend 5 = .ok (.getfield 12, 3) := by decide +kernel
theorem dX2_mend_8 : decode cX2_mend 8 = .ok (.invokevirtual 33, 3) := by decide +kernel
theorem dX2_mend_11 : decode cX2_mend 11 = .ok (.aload_n 0, 1) := by decide +kernel
theorem dX2_mend_12 : decode cX2_mend 12 = .ok (.aload_n 0, 1) := by decide +kernel
theorem dX2_mend_13 : decode cX2_mend 13 = .ok (.getfield 12, 3) := by decide +kernel
theorem dX2_mend_16 : decode cX2_mend 16 = .ok (.iload_n 1, 1) := by decide +kernel
theorem dX2_mend_17 : decode cX2_mend 17 = .ok (.iload_n 2, 1) := by decide +kernel
theorem dX2_mend_18 : decode cX2_mend 18 = .ok (.invokevirtual 58, 3) := by decide +kernel
theorem dX2_mend_21 : decode cX2_mend 21 = .ok (.invokevirtual 41, 3) := by decide +kernel
theorem dX2_mend_24 : decode cX2_mend 24 = .ok (.ireturn, 1) := by decide +kernel
theorem dX2_rate_0 : decode cX2_rate 0 = .ok (.aload_n 0, 1) := by decide +kernel
theorem dX2_rate_1 : decode cX2_rate 1 = .ok (.getfield 16, 3) := by decide +kernel
theorem dX2_rate_4 : decode cX2_rate 4 = .ok (.aload_n 0, 1) := by decide +kernel
theorem dX2_rate_5 : decode cX2_rate 5 = .ok (.getfield 12, 3) := by decide +kernel
theorem dX2_rate_8 : decode cX2_rate 8 = .ok (.invokevirtual 33, 3) := by decide +kernel
theorem dX2_rate_11 : decode cX2_rate 11 = .ok (.aload_n 0, 1) := by decide +kernel
theorem dX2_rate_12 : decode cX2_rate 12 = .ok (.aload_n 0, 1) := by decide +kernel
theorem dX2_rate_13 : decode cX2_rate 13 = .ok (.getfield 12, 3) := by decide +kernel
theorem dX2_rate_16 : decode cX2_rate 16 = .ok (.iload_n 1, 1) := by decide +kernel
theorem dX2_rate_17 : decode cX2_rate 17 = .ok (.iload_n 2, 1) := by decide +kernel
theorem dX2_rate_18 : decode cX2_rate 18 = .ok (.invokevirtual 61, 3) := by decide +kernel
theorem dX2_rate_21 : decode cX2_rate 21 = .ok (.invokevirtual 41, 3) := by decide +kernel
theorem dX2_rate_24 : decode cX2_rate 24 = .ok (.ireturn, 1) := by decide +kernel
theorem dX2_days_0 : decode cX2_days 0 = .ok (.aload_n 0, 1) := by decide +kernel
theorem dX2_days_1 : decode cX2_days 1 = .ok (.getfield 16, 3) := by decide +kernel
theorem dX2_days_4 : decode cX2_days 4 = .ok (.aload_n 0, 1) := by decide +kernel
theorem dX2_days_5 : decode cX2_days 5 = .ok (.getfield 12, 3) := by decide +kernel
theorem dX2_days_8 : decode cX2_days 8 = .ok (.invokevirtual 33, 3) := by decide +kernel
theorem dX2_days_11 : decode cX2_days 11 = .ok (.aload_n 0, 1) := by decide +kernel
theorem dX2_days_12 : decode cX2_days 12 = .ok (.aload_n 0, 1) := by decide +kernel
theorem dX2_days_13 : decode cX2_days 13 = .ok (.getfield 12, 3) := by decide +kernel
theorem dX2_days_16 : decode cX2_days 16 = .ok (.iload_n 1, 1) := by decide +kernel
theorem dX2_days_17 : decode cX2_days 17 = .ok (.sipush 9999, 3) := by decide +kernel
theorem dX2_days_20 : decode cX2_days 20 = .ok (.invokevirtual 64, 3) := by decide +kernel
theorem dX2_days_23 : decode cX2_days 23 = .ok (.invokevirtual 41, 3) := by decide +kernel
theorem dX2_days_26 : decode cX2_days 26 = .ok (.ireturn, 1) := by decide +kernel
theorem dX2_set_0 : decode cX2_set 0 = .ok (.aload_n 0, 1) := by decide +kernel
theorem dX2_set_1 : decode cX2_set 1 = .ok (.getfield 16, 3) := by decide +kernel
theorem dX2_set_4 : decode cX2_set 4 = .ok (.aload_n 0, 1) := by decide +kernel
theorem dX2_set_5 : decode cX2_set 5 = .ok (.getfield 12, 3) := by decide +kernel
theorem dX2_set_8 : decode cX2_set 8 = .ok (.invokevirtual 33, 3) := by decide +kernel
theorem dX2_set_11 : decode cX2_set 11 = .ok (.aload_n 0, 1) := by decide +kernel
theorem dX2_set_12 : decode cX2_set 12 = .ok (.aload_n 0, 1) := by decide +kernel
theorem dX2_set_13 : decode cX2_set 13 = .ok (.getfield 12, 3) := by decide +kernel
theorem dX2_set_16 : decode cX2_set 16 = .ok (.iload_n 1, 1) := by decide +kernel
theorem dX2_set_17 : decode cX2_set 17 = .ok (.iload_n 2, 1) := by decide +kernel
theorem dX2_set_18 : decode cX2_set 18 = .ok (.invokevirtual 67, 3) := by decide +kernel
theorem dX2_set_21 : decode cX2_set 21 = .ok (.invokevirtual 41, 3) := by decide +kernel
theorem dX2_set_24 : decode cX2_set 24 = .ok (.ireturn, 1) := by decide +kernel
theorem dX2_cell_0 : decode cX2_cell 0 = .ok (.aload_n 0, 1) := by decide +kernel
theorem dX2_cell_1 : decode cX2_cell 1 = .ok (.getfield 12, 3) := by decide +kernel
theorem dX2_cell_4 : decode cX2_cell 4 = .ok (.iload_n 1, 1) := by decide +kernel
theorem dX2_cell_5 : decode cX2_cell 5 = .ok (.iload_n 2, 1) := by decide +kernel
theorem dX2_cell_6 : decode cX2_cell 6 = .ok (.iload_n 3, 1) := by decide +kernel
theorem dX2_cell_7 : decode cX2_cell 7 = .ok (.invokevirtual 70, 3) := by decide +kernel
theorem dX2_cell_10 : decode cX2_cell 10 = .ok (.ireturn, 1) := by decide +kernel
theorem dX2_guard_0 : decode cX2_guard 0 = .ok (.aload_n 0, 1) := by decide +kernel
theorem dX2_guard_1 : decode cX2_guard 1 = .ok (.getfield 12, 3) := by decide +kernel
theorem dX2_guard_4 : decode cX2_guard 4 = .ok (.iload_n 1, 1) := by decide +kernel
theorem dX2_guard_5 : decode cX2_guard 5 = .ok (.iload_n 2, 1) := by decide +kernel
theorem dX2_guard_6 : decode cX2_guard 6 = .ok (.iload_n 3, 1) := by decide +kernel
theorem dX2_guard_7 : decode cX2_guard 7 = .ok (.invokevirtual 73, 3) := by decide +kernel
theorem dX2_guard_10 : decode cX2_guard 10 = .ok (.ireturn, 1) := by decide +kernel
theorem dX2_row_0 : decode cX2_row 0 = .ok (.aload_n 0, 1) := by decide +kernel
theorem dX2_row_1 : decode cX2_row 1 = .ok (.getfield 12, 3) := by decide +kernel
theorem dX2_row_4 : decode cX2_row 4 = .ok (.iload_n 1, 1) := by decide +kernel
theorem dX2_row_5 : decode cX2_row 5 = .ok (.iload_n 2, 1) := by decide +kernel
theorem dX2_row_6 : decode cX2_row 6 = .ok (.invokevirtual 76, 3) := by decide +kernel
theorem dX2_row_9 : decode cX2_row 9 = .ok (.ireturn, 1) := by decide +kernel
theorem dX2_table_0 : decode cX2_table 0 = .ok (.aload_n 0, 1) := by decide +kernel
theorem dX2_table_1 : decode cX2_table 1 = .ok (.getfield 12, 3) := by decide +kernel
theorem dX2_table_4 : decode cX2_table 4 = .ok (.iload_n 1, 1) := by decide +kernel
theorem dX2_table_5 : decode cX2_table 5 = .ok (.iload_n 2, 1) := by decide +kernel
theorem dX2_table_6 : decode cX2_table 6 = .ok (.invokevirtual 79, 3) := by decide +kernel
theorem dX2_table_9 : decode cX2_table 9 = .ok (.ireturn, 1) := by decide +kernel
theorem dX2_wrongIn_0 : decode cX2_wrongIn 0 = .ok (.iload_n 1, 1) := by decide +kernel
theorem dX2_wrongIn_1 : decode cX2_wrongIn 1 = .ok (.iconst 0, 1) := by decide +kernel
theorem dX2_wrongIn_2 : decode cX2_wrongIn 2 = .ok (.iconst 5, 1) := by decide +kernel
theorem dX2_wrongIn_3 : decode cX2_wrongIn 3 = .ok (.invokestatic 82, 3) := by decide +kernel
theorem dX2_wrongIn_6 : decode cX2_wrongIn 6 = .ok (.ifCond .eq 6, 3) := by decide +kernel
theorem dX2_wrongIn_9 : decode cX2_wrongIn 9 = .ok (.ldc 86, 2) := by decide +kernel
theorem dX2_wrongIn_11 : decode cX2_wrongIn 11 = .ok (.ireturn, 1) := by decide +kernel
theorem dX2_wrongIn_12 : decode cX2_wrongIn 12 = .ok (.aload_n 0, 1) := by decide +kernel
theorem dX2_wrongIn_13 : decode cX2_wrongIn 13 = .ok (.getfield 19, 3) := by decide +kernel
theorem dX2_wrongIn_16 : decode cX2_wrongIn 16 = .ok (.aload_n 0, 1) := by decide +kernel
theorem dX2_wrongIn_17 : decode cX2_wrongIn 17 = .ok (.getfield 12, 3) := by decide +kernel
theorem dX2_wrongIn_20 : decode cX2_wrongIn 20 = .ok (.invokevirtual 33, 3) := by decide +kernel
theorem dX2_wrongIn_23 : decode cX2_wrongIn 23 = .ok (.iconst 0, 1) := by decide +kernel
theorem dX2_wrongIn_24 : decode cX2_wrongIn 24 = .ok (.istore_n 2, 1) := by decide +kernel
theorem dX2_wrongIn_25 : decode cX2_wrongIn 25 = .ok (.iload_n 2, 1) := by decide +kernel
theorem dX2_wrongIn_26 : decode cX2_wrongIn 26 = .ok (.sipush 300, 3) := by decide +kernel
theorem dX2_wrongIn_29 : decode cX2_wrongIn 29 = .ok (.if_icmp .gt 33, 3) := by decide +kernel
theorem dX2_wrongIn_32 : decode cX2_wrongIn 32 = .ok (.aload_n 0, 1) := by decide +kernel
theorem dX2_wrongIn_33 : decode cX2_wrongIn 33 = .ok (.getfield 19, 3) := by decide +kernel
theorem dX2_wrongIn_36 : decode cX2_wrongIn 36 = .ok (.iload_n 1, 1) := by decide +kernel
theorem dX2_wrongIn_37 : decode cX2_wrongIn 37 = .ok (.invokevirtual 87, 3) := by decide +kernel
theorem dX2_wrongIn_40 : decode cX2_wrongIn 40 = .ok (.ifCond .le 5, 3) := by decide +kernel
theorem dX2_wrongIn_43 : decode cX2_wrongIn 43 = .ok (.iload_n 2, 1) := by decide +kernel
theorem dX2_wrongIn_44 : decode cX2_wrongIn 44 = .ok (.ireturn, 1) := by decide +kernel
theorem dX2_wrongIn_45 : decode cX2_wrongIn 45 = .ok (.aload_n 0, 1) := by decide +kernel
theorem dX2_wrongIn_46 : decode cX2_wrongIn 46 = .ok (.getfield 19, 3) := by decide +kernel
theorem dX2_wrongIn_49 : decode cX2_wrongIn 49 = .ok (.iconst 1, 1) := by decide +kernel
theorem dX2_wrongIn_50 : decode cX2_wrongIn 50 = .ok (.ldc 90, 2) := by decide +kernel
theorem dX2_wrongIn_52 : decode cX2_wrongIn 52 = .ok (.invokevirtual 64, 3) := by decide +kernel
theorem dX2_wrongIn_55 : decode cX2_wrongIn 55 = .ok (.pop, 1) := by decide +kernel
theorem dX2_wrongIn_56 : decode cX2_wrongIn 56 = .ok (.iinc 2 1, 3) := by decide +kernel
theorem dX2_wrongIn_59 : decode cX2_wrongIn 59 = .ok (.goto (-34), 3) := by decide +kernel
theorem dX2_wrongIn_62 : decode cX2_wrongIn 62 = .ok (.ldc 91, 2) := by decide +kernel
theorem dX2_wrongIn_64 : decode cX2_wrongIn 64 = .ok (.ireturn, 1) := by decide +kernel
theorem dX2_rightFor_0 : decode cX2_rightFor 0 = .ok (.iload_n 1, 1) := by decide +kernel
theorem dX2_rightFor_1 : decode cX2_rightFor 1 = .ok (.iconst 0, 1) := by decide +kernel
theorem dX2_rightFor_2 : decode cX2_rightFor 2 = .ok (.iconst 5, 1) := by decide +kernel
theorem dX2_rightFor_3 : decode cX2_rightFor 3 = .ok (.invokestatic 82, 3) := by decide +kernel
theorem dX2_rightFor_6 : decode cX2_rightFor 6 = .ok (.ifCond .eq 6, 3) := by decide +kernel
theorem dX2_rightFor_9 : decode cX2_rightFor 9 = .ok (.ldc 86, 2) := by decide +kernel
theorem dX2_rightFor_11 : decode cX2_rightFor 11 = .ok (.ireturn, 1) := by decide +kernel
theorem dX2_rightFor_12 : decode cX2_rightFor 12 = .ok (.aload_n 0, 1) := by decide +kernel
theorem dX2_rightFor_13 : decode cX2_rightFor 13 = .ok (.getfield 19, 3) := by decide +kernel
theorem dX2_rightFor_16 : decode cX2_rightFor 16 = .ok (.aload_n 0, 1) := by decide +kernel
theorem dX2_rightFor_17 : decode cX2_rightFor 17 = .ok (.getfield 12, 3) := by decide +kernel
theorem dX2_rightFor_20 : decode cX2_rightFor 20 = .ok (.invokevirtual 33, 3) := by decide +kernel
theorem dX2_rightFor_23 : decode cX2_rightFor 23 = .ok (.aload_n 0, 1) := by decide +kernel
theorem dX2_rightFor_24 : decode cX2_rightFor 24 = .ok (.getfield 19, 3) := by decide +kernel
theorem dX2_rightFor_27 : decode cX2_rightFor 27 = .ok (.iconst 2, 1) := by decide +kernel
theorem dX2_rightFor_28 : decode cX2_rightFor 28 = .ok (.iconst 0, 1) := by decide +kernel
theorem dX2_rightFor_29 : decode cX2_rightFor 29 = .ok (.invokevirtual 67, 3) := by decide +kernel
theorem dX2_rightFor_32 : decode cX2_rightFor 32 = .ok (.pop, 1) := by decide +kernel
theorem dX2_rightFor_33 : decode cX2_rightFor 33 = .ok (.iconst 0, 1) := by decide +kernel
theorem dX2_rightFor_34 : decode cX2_rightFor 34 = .ok (.istore_n 2, 1) := by decide +kernel
theorem dX2_rightFor_35 : decode cX2_rightFor 35 = .ok (.iload_n 2, 1) := by decide +kernel
theorem dX2_rightFor_36 : decode cX2_rightFor 36 = .ok (.sipush 300, 3) := by decide +kernel
theorem dX2_rightFor_39 : decode cX2_rightFor 39 = .ok (.if_icmp .gt 33, 3) := by decide +kernel
theorem dX2_rightFor_42 : decode cX2_rightFor 42 = .ok (.aload_n 0, 1) := by decide +kernel
theorem dX2_rightFor_43 : decode cX2_rightFor 43 = .ok (.getfield 19, 3) := by decide +kernel
theorem dX2_rightFor_46 : decode cX2_rightFor 46 = .ok (.iload_n 1, 1) := by decide +kernel
theorem dX2_rightFor_47 : decode cX2_rightFor 47 = .ok (.invokevirtual 92, 3) := by decide +kernel
theorem dX2_rightFor_50 : decode cX2_rightFor 50 = .ok (.ifCond .ne 5, 3) := by decide +kernel
theorem dX2_rightFor_53 : decode cX2_rightFor 53 = .ok (.iload_n 2, 1) := by decide +kernel
theorem dX2_rightFor_54 : decode cX2_rightFor 54 = .ok (.ireturn, 1) := by decide +kernel
theorem dX2_rightFor_55 : decode cX2_rightFor 55 = .ok (.aload_n 0, 1) := by decide +kernel
theorem dX2_rightFor_56 : decode cX2_rightFor 56 = .ok (.getfield 19, 3) := by decide +kernel
theorem dX2_rightFor_59 : decode cX2_rightFor 59 = .ok (.iconst 1, 1) := by decide +kernel
theorem dX2_rightFor_60 : decode cX2_rightFor 60 = .ok (.ldc 90, 2) := by decide +kernel
theorem dX2_rightFor_62 : decode cX2_rightFor 62 = .ok (.invokevirtual 64, 3) := by decide +kernel
theorem dX2_rightFor_65 : decode cX2_rightFor 65 = .ok (.pop, 1) := by decide +kernel
theorem dX2_rightFor_66 : decode cX2_rightFor 66 = .ok (.iinc 2 1, 3) := by decide +kernel
theorem dX2_rightFor_69 : decode cX2_rightFor 69 = .ok (.goto (-34), 3) := by decide +kernel
theorem dX2_rightFor_72 : decode cX2_rightFor 72 = .ok (.ldc 91, 2) := by decide +kernel
theorem dX2_rightFor_74 : decode cX2_rightFor 74 = .ok (.ireturn, 1) := by decide +kernel
theorem dX2_safeAge_0 : decode cX2_safeAge 0 = .ok (.bipush 60, 2) := by decide +kernel
theorem dX2_safeAge_2 : decode cX2_safeAge 2 = .ok (.istore_n 1, 1) := by decide +kernel
theorem dX2_safeAge_3 : decode cX2_safeAge 3 = .ok (.iload_n 1, 1) := by decide +kernel
theorem dX2_safeAge_4 : decode cX2_safeAge 4 = .ok (.iconst 1, 1) := by decide +kernel
theorem dX2_safeAge_5 : decode cX2_safeAge 5 = .ok (.if_icmp .lt 19, 3) := by decide +kernel
theorem dX2_safeAge_8 : decode cX2_safeAge 8 = .ok (.aload_n 0, 1) := by decide +kernel
theorem dX2_safeAge_9 : decode cX2_safeAge 9 = .ok (.iload_n 1, 1) := by decide +kernel
theorem dX2_safeAge_10 : decode cX2_safeAge 10 = .ok (.invokevirtual 96, 3) := by decide +kernel
theorem dX2_safeAge_13 : decode cX2_safeAge 13 = .ok (.ifCond .eq 5, 3) := by decide +kernel
theorem dX2_safeAge_16 : decode cX2_safeAge 16 = .ok (.iload_n 1, 1) := by decide +kernel
theorem dX2_safeAge_17 : decode cX2_safeAge 17 = .ok (.ireturn, 1) := by decide +kernel
theorem dX2_safeAge_18 : decode cX2_safeAge 18 = .ok (.iinc 1 (-1), 3) := by decide +kernel
theorem dX2_safeAge_21 : decode cX2_safeAge 21 = .ok (.goto (-18), 3) := by decide +kernel
theorem dX2_safeAge_24 : decode cX2_safeAge 24 = .ok (.ldc 91, 2) := by decide +kernel
theorem dX2_safeAge_26 : decode cX2_safeAge 26 = .ok (.ireturn, 1) := by decide +kernel
theorem dX2_worst_0 : decode cX2_worst 0 = .ok (.iload_n 1, 1) := by decide +kernel
theorem dX2_worst_1 : decode cX2_worst 1 = .ok (.iconst 0, 1) := by decide +kernel
theorem dX2_worst_2 : decode cX2_worst 2 = .ok (.iconst 5, 1) := by decide +kernel
theorem dX2_worst_3 : decode cX2_worst 3 = .ok (.invokestatic 82, 3) := by decide +kernel
theorem dX2_worst_6 : decode cX2_worst 6 = .ok (.ifCond .eq 6, 3) := by decide +kernel
theorem dX2_worst_9 : decode cX2_worst 9 = .ok (.ldc 86, 2) := by decide +kernel
theorem dX2_worst_11 : decode cX2_worst 11 = .ok (.ireturn, 1) := by decide +kernel
theorem dX2_worst_12 : decode cX2_worst 12 = .ok (.iconst 0, 1) := by decide +kernel
theorem dX2_worst_13 : decode cX2_worst 13 = .ok (.istore_n 2, 1) := by decide +kernel
theorem dX2_worst_14 : decode cX2_worst 14 = .ok (.iconst 0, 1) := by decide +kernel
theorem dX2_worst_15 : decode cX2_worst 15 = .ok (.istore_n 3, 1) := by decide +kernel
theorem dX2_worst_16 : decode cX2_worst 16 = .ok (.iconst 0, 1) := by decide +kernel
theorem dX2_worst_17 : decode cX2_worst 17 = .ok (.istore 4, 2) := by decide +kernel
theorem dX2_worst_19 : decode cX2_worst 19 = .ok (.iload 4, 2) := by decide +kernel
theorem dX2_worst_21 : decode cX2_worst 21 = .ok (.iload_n 1, 1) := by decide +kernel
theorem dX2_worst_22 : decode cX2_worst 22 = .ok (.if_icmp .gt 24, 3) := by decide +kernel
theorem dX2_worst_25 : decode cX2_worst 25 = .ok (.aload_n 0, 1) := by decide +kernel
theorem dX2_worst_26 : decode cX2_worst 26 = .ok (.getfield 12, 3) := by decide +kernel
theorem dX2_worst_29 : decode cX2_worst 29 = .ok (.iload_n 2, 1) := by decide +kernel
theorem dX2_worst_30 : decode cX2_worst 30 = .ok (.invokevirtual 99, 3) := by decide +kernel
theorem dX2_worst_33 : decode cX2_worst 33 = .ok (.istore_n 3, 1) := by decide +kernel
theorem dX2_worst_34 : decode cX2_worst 34 = .ok (.iload_n 2, 1) := by decide +kernel
theorem dX2_worst_35 : decode cX2_worst 35 = .ok (.iconst 1, 1) := by decide +kernel
theorem dX2_worst_36 : decode cX2_worst 36 = .ok (.iload_n 3, 1) := by decide +kernel
theorem dX2_worst_37 : decode cX2_worst 37 = .ok (.ishl, 1) := by decide +kernel
theorem dX2_worst_38 : decode cX2_worst 38 = .ok (.ior, 1) := by decide +kernel
theorem dX2_worst_39 : decode cX2_worst 39 = .ok (.istore_n 2, 1) := by decide +kernel
theorem dX2_worst_40 : decode cX2_worst 40 = .ok (.iinc 4 1, 3) := by decide +kernel
theorem dX2_worst_43 : decode cX2_worst 43 = .ok (.goto (-24), 3) := by decide +kernel
theorem dX2_worst_46 : decode cX2_worst 46 = .ok (.iload_n 3, 1) := by decide +kernel
theorem dX2_worst_47 : decode cX2_worst 47 = .ok (.ireturn, 1) := by decide +kernel
theorem dX2_mean_0 : decode cX2_mean 0 = .ok (.aload_n 0, 1) := by decide +kernel
theorem dX2_mean_1 : decode cX2_mean 1 = .ok (.getfield 12, 3) := by decide +kernel
theorem dX2_mean_4 : decode cX2_mean 4 = .ok (.invokevirtual 102, 3) := by decide +kernel
theorem dX2_mean_7 : decode cX2_mean 7 = .ok (.i2f, 1) := by decide +kernel
theorem dX2_mean_8 : decode cX2_mean 8 = .ok (.ldc 106, 2) := by decide +kernel
theorem dX2_mean_10 : decode cX2_mean 10 = .ok (.fdiv, 1) := by decide +kernel
theorem dX2_mean_11 : decode cX2_mean 11 = .ok (.invokestatic 107, 3) := by decide +kernel
theorem dX2_mean_14 : decode cX2_mean 14 = .ok (.ireturn, 1) := by decide +kernel
theorem dX2_share_0 : decode cX2_share 0 = .ok (.aload_n 0, 1) := by decide +kernel
theorem dX2_share_1 : decode cX2_share 1 = .ok (.getfield 12, 3) := by decide +kernel
theorem dX2_share_4 : decode cX2_share 4 = .ok (.invokevirtual 111, 3) := by decide +kernel
theorem dX2_share_7 : decode cX2_share 7 = .ok (.istore_n 1, 1) := by decide +kernel
theorem dX2_share_8 : decode cX2_share 8 = .ok (.iload_n 1, 1) := by decide +kernel
theorem dX2_share_9 : decode cX2_share 9 = .ok (.ifCond .ne 6, 3) := by decide +kernel
theorem dX2_share_12 : decode cX2_share 12 = .ok (.ldc 91, 2) := by decide +kernel
theorem dX2_share_14 : decode cX2_share 14 = .ok (.ireturn, 1) := by decide +kernel
theorem dX2_share_15 : decode cX2_share 15 = .ok (.aload_n 0, 1) := by decide +kernel
theorem dX2_share_16 : decode cX2_share 16 = .ok (.getfield 12, 3) := by decide +kernel
theorem dX2_share_19 : decode cX2_share 19 = .ok (.invokevirtual 114, 3) := by decide +kernel
theorem dX2_share_22 : decode cX2_share 22 = .ok (.i2f, 1) := by decide +kernel
theorem dX2_share_23 : decode cX2_share 23 = .ok (.iload_n 1, 1) := by decide +kernel
theorem dX2_share_24 : decode cX2_share 24 = .ok (.i2f, 1) := by decide +kernel
theorem dX2_share_25 : decode cX2_share 25 = .ok (.fdiv, 1) := by decide +kernel
theorem dX2_share_26 : decode cX2_share 26 = .ok (.invokestatic 107, 3) := by decide +kernel
theorem dX2_share_29 : decode cX2_share 29 = .ok (.ireturn, 1) := by decide +kernel
theorem dX2_count_0 : decode cX2_count 0 = .ok (.iload_n 1, 1) := by decide +kernel
theorem dX2_count_1 : decode cX2_count 1 = .ok (.lookupswitch 40 #[(15, 27), (16, 32)], 27) := by decide +kernel
theorem dX2_count_28 : decode cX2_count 28 = .ok (.aload_n 0, 1) := by decide +kernel
theorem dX2_count_29 : decode cX2_count 29 = .ok (.getfield 117, 3) := by decide +kernel
theorem dX2_count_32 : decode cX2_count 32 = .ok (.ireturn, 1) := by decide +kernel
theorem dX2_count_33 : decode cX2_count 33 = .ok (.aload_n 0, 1) := by decide +kernel
theorem dX2_count_34 : decode cX2_count 34 = .ok (.getfield 29, 3) := by decide +kernel
theorem dX2_count_37 : decode cX2_count 37 = .ok (.invokevirtual 121, 3) := by decide +kernel
theorem dX2_count_40 : decode cX2_count 40 = .ok (.ireturn, 1) := by decide +kernel
theorem dX2_count_41 : decode cX2_count 41 = .ok (.aload_n 0, 1) := by decide +kernel
theorem dX2_count_42 : decode cX2_count 42 = .ok (.getfield 12, 3) := by decide +kernel
theorem dX2_count_45 : decode cX2_count 45 = .ok (.iload_n 1, 1) := by decide +kernel
theorem dX2_count_46 : decode cX2_count 46 = .ok (.invokevirtual 124, 3) := by decide +kernel
theorem dX2_count_49 : decode cX2_count 49 = .ok (.ireturn, 1) := by decide +kernel
theorem dX2_undo_0 : decode cX2_undo 0 = .ok (.aload_n 0, 1) := by decide +kernel
theorem dX2_undo_1 : decode cX2_undo 1 = .ok (.getfield 117, 3) := by decide +kernel
theorem dX2_undo_4 : decode cX2_undo 4 = .ok (.ifCond .le 11, 3) := by decide +kernel
theorem dX2_undo_7 : decode cX2_undo 7 = .ok (.aload_n 0, 1) := by decide +kernel
theorem dX2_undo_8 : decode cX2_undo 8 = .ok (.getfield 117, 3) := by decide +kernel
theorem dX2_undo_11 : decode cX2_undo 11 = .ok (.iconst 4, 1) := by decide +kernel
theorem dX2_undo_12 : decode cX2_undo 12 = .ok (.if_icmp .le 6, 3) := by decide +kernel
theorem dX2_undo_15 : decode cX2_undo 15 = .ok (.ldc 127, 2) := by decide +kernel
theorem dX2_undo_17 : decode cX2_undo 17 = .ok (.ireturn, 1) := by decide +kernel
theorem dX2_undo_18 : decode cX2_undo 18 = .ok (.aload_n 0, 1) := by decide +kernel
theorem dX2_undo_19 : decode cX2_undo 19 = .ok (.dup, 1) := by decide +kernel
theorem dX2_undo_20 : decode cX2_undo 20 = .ok (.getfield 117, 3) := by decide +kernel
theorem dX2_undo_23 : decode cX2_undo 23 = .ok (.iconst 1, 1) := by decide +kernel
theorem dX2_undo_24 : decode cX2_undo 24 = .ok (.isub, 1) := by decide +kernel
theorem dX2_undo_25 : decode cX2_undo 25 = .ok (.putfield 117, 3) := by decide +kernel
theorem dX2_undo_28 : decode cX2_undo 28 = .ok (.aload_n 0, 1) := by decide +kernel
theorem dX2_undo_29 : decode cX2_undo 29 = .ok (.getfield 12, 3) := by decide +kernel
theorem dX2_undo_32 : decode cX2_undo 32 = .ok (.astore_n 1, 1) := by decide +kernel
theorem dX2_undo_33 : decode cX2_undo 33 = .ok (.aload_n 0, 1) := by decide +kernel
theorem dX2_undo_34 : decode cX2_undo 34 = .ok (.aload_n 0, 1) := by decide +kernel
theorem dX2_undo_35 : decode cX2_undo 35 = .ok (.getfield 22, 3) := by decide +kernel
theorem dX2_undo_38 : decode cX2_undo 38 = .ok (.aload_n 0, 1) := by decide +kernel
theorem dX2_undo_39 : decode cX2_undo 39 = .ok (.getfield 117, 3) := by decide +kernel
theorem dX2_undo_42 : decode cX2_undo 42 = .ok (.aaload, 1) := by decide +kernel
theorem dX2_undo_43 : decode cX2_undo 43 = .ok (.putfield 12, 3) := by decide +kernel
theorem dX2_undo_46 : decode cX2_undo 46 = .ok (.aload_n 0, 1) := by decide +kernel
theorem dX2_undo_47 : decode cX2_undo 47 = .ok (.getfield 22, 3) := by decide +kernel
theorem dX2_undo_50 : decode cX2_undo 50 = .ok (.aload_n 0, 1) := by decide +kernel
theorem dX2_undo_51 : decode cX2_undo 51 = .ok (.getfield 117, 3) := by decide +kernel
theorem dX2_undo_54 : decode cX2_undo 54 = .ok (.aload_n 1, 1) := by decide +kernel
theorem dX2_undo_55 : decode cX2_undo 55 = .ok (.aastore, 1) := by decide +kernel
theorem dX2_undo_56 : decode cX2_undo 56 = .ok (.aload_n 0, 1) := by decide +kernel
theorem dX2_undo_57 : decode cX2_undo 57 = .ok (.getfield 117, 3) := by decide +kernel
theorem dX2_undo_60 : decode cX2_undo 60 = .ok (.ireturn, 1) := by decide +kernel
theorem dX2_type_0 : decode cX2_type 0 = .ok (.aload_n 0, 1) := by decide +kernel
theorem dX2_type_1 : decode cX2_type 1 = .ok (.getfield 29, 3) := by decide +kernel
theorem dX2_type_4 : decode cX2_type 4 = .ok (.iload_n 1, 1) := by decide +kernel
theorem dX2_type_5 : decode cX2_type 5 = .ok (.invokevirtual 128, 3) := by decide +kernel
