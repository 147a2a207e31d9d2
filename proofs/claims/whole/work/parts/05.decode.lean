theorem dX7_init_0 : decode cX7_init 0 = .ok (.aload_n 0, 1) := by decide +kernel
theorem dX7_init_1 : decode cX7_init 1 = .ok (.invokespecial 1, 3) := by decide +kernel
theorem dX7_init_4 : decode cX7_init 4 = .ok (.aload_n 0, 1) := by decide +kernel
theorem dX7_init_5 : decode cX7_init 5 = .ok (.bipush 12, 2) := by decide +kernel
theorem dX7_init_7 : decode cX7_init 7 = .ok (.newarray .int, 2) := by decide +kernel
theorem dX7_init_9 : decode cX7_init 9 = .ok (.putfield 9, 3) := by decide +kernel
theorem dX7_init_12 : decode cX7_init 12 = .ok (.aload_n 0, 1) := by decide +kernel
theorem dX7_init_13 : decode cX7_init 13 = .ok (.bipush 12, 2) := by decide +kernel
theorem dX7_init_15 : decode cX7_init 15 = .ok (.newarray .int, 2) := by decide +kernel
theorem dX7_init_17 : decode cX7_init 17 = .ok (.putfield 13, 3) := by decide +kernel
theorem dX7_init_20 : decode cX7_init 20 = .ok (.aload_n 0, 1) := by decide +kernel
theorem dX7_init_21 : decode cX7_init 21 = .ok (.bipush 12, 2) := by decide +kernel
theorem dX7_init_23 : decode cX7_init 23 = .ok (.newarray .boolean, 2) := by decide +kernel
theorem dX7_init_25 : decode cX7_init 25 = .ok (.putfield 16, 3) := by decide +kernel
theorem dX7_init_28 : decode cX7_init 28 = .ok (.aload_n 0, 1) := by decide +kernel
theorem dX7_init_29 : decode cX7_init 29 = .ok (.bipush 24, 2) := by decide +kernel
theorem dX7_init_31 : decode cX7_init 31 = .ok (.newarray .int, 2) := by decide +kernel
theorem dX7_init_33 : decode cX7_init 33 = .ok (.putfield 20, 3) := by decide +kernel
theorem dX7_init_36 : decode cX7_init 36 = .ok (.aload_n 0, 1) := by decide +kernel
theorem dX7_init_37 : decode cX7_init 37 = .ok (.bipush 24, 2) := by decide +kernel
theorem dX7_init_39 : decode cX7_init 39 = .ok (.newarray .int, 2) := by decide +kernel
theorem dX7_init_41 : decode cX7_init 41 = .ok (.putfield 23, 3) := by decide +kernel
theorem dX7_init_44 : decode cX7_init 44 = .ok (.aload_n 0, 1) := by decide +kernel
theorem dX7_init_45 : decode cX7_init 45 = .ok (.bipush 24, 2) := by decide +kernel
theorem dX7_init_47 : decode cX7_init 47 = .ok (.newarray .char, 2) := by decide +kernel
theorem dX7_init_49 : decode cX7_init 49 = .ok (.putfield 26, 3) := by decide +kernel
theorem dX7_init_52 : decode cX7_init 52 = .ok (.aload_n 0, 1) := by decide +kernel
theorem dX7_init_53 : decode cX7_init 53 = .ok (.iconst 4, 1) := by decide +kernel
theorem dX7_init_54 : decode cX7_init 54 = .ok (.bipush 8, 2) := by decide +kernel
theorem dX7_init_56 : decode cX7_init 56 = .ok (.multianewarray 30 2, 4) := by decide +kernel
theorem dX7_init_60 : decode cX7_init 60 = .ok (.putfield 32, 3) := by decide +kernel
theorem dX7_init_63 : decode cX7_init 63 = .ok (.aload_n 0, 1) := by decide +kernel
theorem dX7_init_64 : decode cX7_init 64 = .ok (.iconst 4, 1) := by decide +kernel
theorem dX7_init_65 : decode cX7_init 65 = .ok (.bipush 8, 2) := by decide +kernel
theorem dX7_init_67 : decode cX7_init 67 = .ok (.multianewarray 30 2, 4) := by decide +kernel
theorem dX7_init_71 : decode cX7_init 71 = .ok (.putfield 35, 3) := by decide +kernel
theorem dX7_init_74 : decode cX7_init 74 = .ok (.aload_n 0, 1) := by decide +kernel
theorem dX7_init_75 : decode cX7_init 75 = .ok (.iconst 4, 1) := by decide +kernel
theorem dX7_init_76 : decode cX7_init 76 = .ok (.bipush 8, 2) := by decide +kernel
theorem dX7_init_78 : decode cX7_init 78 = .ok (.multianewarray 30 2, 4) := by decide +kernel
theorem dX7_init_82 : decode cX7_init 82 = .ok (.putfield 38, 3) := by decide +kernel
theorem dX7_init_85 : decode cX7_init 85 = .ok (.aload_n 0, 1) := by decide +kernel
theorem dX7_init_86 : decode cX7_init 86 = .ok (.iconst 4, 1) := by decide +kernel
theorem dX7_init_87 : decode cX7_init 87 = .ok (.newarray .int, 2) := by decide +kernel
theorem dX7_init_89 : decode cX7_init 89 = .ok (.putfield 41, 3) := by decide +kernel
theorem dX7_init_92 : decode cX7_init 92 = .ok (.aload_n 0, 1) := by decide +kernel
theorem dX7_init_93 : decode cX7_init 93 = .ok (.iconst 4, 1) := by decide +kernel
theorem dX7_init_94 : decode cX7_init 94 = .ok (.newarray .boolean, 2) := by decide +kernel
theorem dX7_init_96 : decode cX7_init 96 = .ok (.putfield 44, 3) := by decide +kernel
theorem dX7_init_99 : decode cX7_init 99 = .ok (.aload_n 0, 1) := by decide +kernel
theorem dX7_init_100 : decode cX7_init 100 = .ok (.iconst 2, 1) := by decide +kernel
theorem dX7_init_101 : decode cX7_init 101 = .ok (.newarray .int, 2) := by decide +kernel
theorem dX7_init_103 : decode cX7_init 103 = .ok (.putfield 47, 3) := by decide +kernel
theorem dX7_init_106 : decode cX7_init 106 = .ok (.aload_n 0, 1) := by decide +kernel
theorem dX7_init_107 : decode cX7_init 107 = .ok (.iconst 3, 1) := by decide +kernel
theorem dX7_init_108 : decode cX7_init 108 = .ok (.putfield 50, 3) := by decide +kernel
theorem dX7_init_111 : decode cX7_init 111 = .ok (.aload_n 0, 1) := by decide +kernel
theorem dX7_init_112 : decode cX7_init 112 = .ok (.bipush 10, 2) := by decide +kernel
theorem dX7_init_114 : decode cX7_init 114 = .ok (.newarray .int, 2) := by decide +kernel
theorem dX7_init_116 : decode cX7_init 116 = .ok (.putfield 54, 3) := by decide +kernel
theorem dX7_init_119 : decode cX7_init 119 = .ok (.aload_n 0, 1) := by decide +kernel
theorem dX7_init_120 : decode cX7_init 120 = .ok (.bipush 10, 2) := by decide +kernel
theorem dX7_init_122 : decode cX7_init 122 = .ok (.bipush 24, 2) := by decide +kernel
theorem dX7_init_124 : decode cX7_init 124 = .ok (.multianewarray 57 2, 4) := by decide +kernel
theorem dX7_init_128 : decode cX7_init 128 = .ok (.putfield 59, 3) := by decide +kernel
theorem dX7_init_131 : decode cX7_init 131 = .ok (.aload_n 0, 1) := by decide +kernel
theorem dX7_init_132 : decode cX7_init 132 = .ok (.bipush 10, 2) := by decide +kernel
theorem dX7_init_134 : decode cX7_init 134 = .ok (.bipush 24, 2) := by decide +kernel
theorem dX7_init_136 : decode cX7_init 136 = .ok (.multianewarray 30 2, 4) := by decide +kernel
theorem dX7_init_140 : decode cX7_init 140 = .ok (.putfield 62, 3) := by decide +kernel
theorem dX7_init_143 : decode cX7_init 143 = .ok (.aload_n 0, 1) := by decide +kernel
theorem dX7_init_144 : decode cX7_init 144 = .ok (.bipush 10, 2) := by decide +kernel
theorem dX7_init_146 : decode cX7_init 146 = .ok (.bipush 24, 2) := by decide +kernel
theorem dX7_init_148 : decode cX7_init 148 = .ok (.multianewarray 30 2, 4) := by decide +kernel
theorem dX7_init_152 : decode cX7_init 152 = .ok (.putfield 65, 3) := by decide +kernel
theorem dX7_init_155 : decode cX7_init 155 = .ok (.aload_n 0, 1) := by decide +kernel
theorem dX7_init_156 : decode cX7_init 156 = .ok (.bipush 10, 2) := by decide +kernel
theorem dX7_init_158 : decode cX7_init 158 = .ok (.bipush 24, 2) := by decide +kernel
theorem dX7_init_160 : decode cX7_init 160 = .ok (.multianewarray 30 2, 4) := by decide +kernel
theorem dX7_init_164 : decode cX7_init 164 = .ok (.putfield 68, 3) := by decide +kernel
theorem dX7_init_167 : decode cX7_init 167 = .ok (.aload_n 0, 1) := by decide +kernel
theorem dX7_init_168 : decode cX7_init 168 = .ok (.bipush 10, 2) := by decide +kernel
theorem dX7_init_170 : decode cX7_init 170 = .ok (.bipush 24, 2) := by decide +kernel
theorem dX7_init_172 : decode cX7_init 172 = .ok (.multianewarray 30 2, 4) := by decide +kernel
theorem dX7_init_176 : decode cX7_init 176 = .ok (.putfield 71, 3) := by decide +kernel
theorem dX7_init_179 : decode cX7_init 179 = .ok (.aload_n 0, 1) := by decide +kernel
theorem dX7_init_180 : decode cX7_init 180 = .ok (.bipush 10, 2) := by decide +kernel
theorem dX7_init_182 : decode cX7_init 182 = .ok (.bipush 24, 2) := by decide +kernel
theorem dX7_init_184 : decode cX7_init 184 = .ok (.multianewarray 74 2, 4) := by decide +kernel
theorem dX7_init_188 : decode cX7_init 188 = .ok (.putfield 76, 3) := by decide +kernel
theorem dX7_init_191 : decode cX7_init 191 = .ok (.return_, 1) := by decide +kernel
theorem dX7_thrown_0 : decode cX7_thrown 0 = .ok (.aload_n 0, 1) := by decide +kernel
theorem dX7_thrown_1 : decode cX7_thrown 1 = .ok (.getfield 79, 3) := by decide +kernel
theorem dX7_thrown_4 : decode cX7_thrown 4 = .ok (.ireturn, 1) := by decide +kernel
theorem dX7_raises_0 : decode cX7_raises 0 = .ok (.aload_n 0, 1) := by decide +kernel
theorem dX7_raises_1 : decode cX7_raises 1 = .ok (.iload_n 1, 1) := by decide +kernel
theorem dX7_raises_2 : decode cX7_raises 2 = .ok (.putfield 79, 3) := by decide +kernel
theorem dX7_raises_5 : decode cX7_raises 5 = .ok (.iconst 0, 1) := by decide +kernel
theorem dX7_raises_6 : decode cX7_raises 6 = .ok (.ireturn, 1) := by decide +kernel
theorem dX7_in_0 : decode cX7_in 0 = .ok (.iload_n 0, 1) := by decide +kernel
theorem dX7_in_1 : decode cX7_in 1 = .ok (.iload_n 1, 1) := by decide +kernel
theorem dX7_in_2 : decode cX7_in 2 = .ok (.if_icmp .lt 12, 3) := by decide +kernel
theorem dX7_in_5 : decode cX7_in 5 = .ok (.iload_n 0, 1) := by decide +kernel
theorem dX7_in_6 : decode cX7_in 6 = .ok (.iload_n 2, 1) := by decide +kernel
theorem dX7_in_7 : decode cX7_in 7 = .ok (.if_icmp .gt 7, 3) := by decide +kernel
theorem dX7_in_10 : decode cX7_in 10 = .ok (.iconst 1, 1) := by decide +kernel
theorem dX7_in_11 : decode cX7_in 11 = .ok (.goto 4, 3) := by decide +kernel
theorem dX7_in_14 : decode cX7_in 14 = .ok (.iconst 0, 1) := by decide +kernel
theorem dX7_in_15 : decode cX7_in 15 = .ok (.ireturn, 1) := by decide +kernel
theorem dX7_isAddress_0 : decode cX7_isAddress 0 = .ok (.iload_n 1, 1) := by decide +kernel
theorem dX7_isAddress_1 : decode cX7_isAddress 1 = .ok (.iconst 0, 1) := by decide +kernel
theorem dX7_isAddress_2 : decode cX7_isAddress 2 = .ok (.aload_n 0, 1) := by decide +kernel
theorem dX7_isAddress_3 : decode cX7_isAddress 3 = .ok (.getfield 82, 3) := by decide +kernel
theorem dX7_isAddress_6 : decode cX7_isAddress 6 = .ok (.iconst 1, 1) := by decide +kernel
theorem dX7_isAddress_7 : decode cX7_isAddress 7 = .ok (.isub, 1) := by decide +kernel
theorem dX7_isAddress_8 : decode cX7_isAddress 8 = .ok (.invokestatic 85, 3) := by decide +kernel
theorem dX7_isAddress_11 : decode cX7_isAddress 11 = .ok (.ifCond .eq 16, 3) := by decide +kernel
theorem dX7_isAddress_14 : decode cX7_isAddress 14 = .ok (.aload_n 0, 1) := by decide +kernel
theorem dX7_isAddress_15 : decode cX7_isAddress 15 = .ok (.getfield 16, 3) := by decide +kernel
theorem dX7_isAddress_18 : decode cX7_isAddress 18 = .ok (.iload_n 1, 1) := by decide +kernel
theorem dX7_isAddress_19 : decode cX7_isAddress 19 = .ok (.baload, 1) := by decide +kernel
theorem dX7_isAddress_20 : decode cX7_isAddress 20 = .ok (.ifCond .ne 7, 3) := by decide +kernel
theorem dX7_isAddress_23 : decode cX7_isAddress 23 = .ok (.iconst 1, 1) := by decide +kernel
theorem dX7_isAddress_24 : decode cX7_isAddress 24 = .ok (.goto 4, 3) := by decide +kernel
theorem dX7_isAddress_27 : decode cX7_isAddress 27 = .ok (.iconst 0, 1) := by decide +kernel
theorem dX7_isAddress_28 : decode cX7_isAddress 28 = .ok (.ireturn, 1) := by decide +kernel
theorem dX7_isPerson_0 : decode cX7_isPerson 0 = .ok (.iload_n 1, 1) := by decide +kernel
theorem dX7_isPerson_1 : decode cX7_isPerson 1 = .ok (.iconst 0, 1) := by decide +kernel
theorem dX7_isPerson_2 : decode cX7_isPerson 2 = .ok (.aload_n 0, 1) := by decide +kernel
theorem dX7_isPerson_3 : decode cX7_isPerson 3 = .ok (.getfield 89, 3) := by decide +kernel
theorem dX7_isPerson_6 : decode cX7_isPerson 6 = .ok (.iconst 1, 1) := by decide +kernel
theorem dX7_isPerson_7 : decode cX7_isPerson 7 = .ok (.isub, 1) := by decide +kernel
theorem dX7_isPerson_8 : decode cX7_isPerson 8 = .ok (.invokestatic 85, 3) := by decide +kernel
theorem dX7_isPerson_11 : decode cX7_isPerson 11 = .ok (.ireturn, 1) := by decide +kernel
theorem dX7_isTemplate_0 : decode cX7_isTemplate 0 = .ok (.iload_n 1, 1) := by decide +kernel
theorem dX7_isTemplate_1 : decode cX7_isTemplate 1 = .ok (.iconst 0, 1) := by decide +kernel
theorem dX7_isTemplate_2 : decode cX7_isTemplate 2 = .ok (.aload_n 0, 1) := by decide +kernel
theorem dX7_isTemplate_3 : decode cX7_isTemplate 3 = .ok (.getfield 92, 3) := by decide +kernel
theorem dX7_isTemplate_6 : decode cX7_isTemplate 6 = .ok (.iconst 1, 1) := by decide +kernel
theorem dX7_isTemplate_7 : decode cX7_isTemplate 7 = .ok (.isub, 1) := by decide +kernel
theorem dX7_isTemplate_8 : decode cX7_isTemplate 8 = .ok (.invokestatic 85, 3) := by decide +kernel
theorem dX7_isTemplate_11 : decode cX7_isTemplate 11 = .ok (.ireturn, 1) := by decide +kernel
theorem dX7_isRun_0 : decode cX7_isRun 0 = .ok (.iload_n 1, 1) := by decide +kernel
theorem dX7_isRun_1 : decode cX7_isRun 1 = .ok (.iconst 0, 1) := by decide +kernel
theorem dX7_isRun_2 : decode cX7_isRun 2 = .ok (.aload_n 0, 1) := by decide +kernel
theorem dX7_isRun_3 : decode cX7_isRun 3 = .ok (.getfield 95, 3) := by decide +kernel
theorem dX7_isRun_6 : decode cX7_isRun 6 = .ok (.iconst 1, 1) := by decide +kernel
theorem dX7_isRun_7 : decode cX7_isRun 7 = .ok (.isub, 1) := by decide +kernel
theorem dX7_isRun_8 : decode cX7_isRun 8 = .ok (.invokestatic 85, 3) := by decide +kernel
theorem dX7_isRun_11 : decode cX7_isRun 11 = .ok (.ireturn, 1) := by decide +kernel
theorem dX7_addAddress_0 : decode cX7_addAddress 0 = .ok (.aload_n 0, 1) := by decide +kernel
theorem dX7_addAddress_1 : decode cX7_addAddress 1 = .ok (.iload_n 1, 1) := by decide +kernel
theorem dX7_addAddress_2 : decode cX7_addAddress 2 = .ok (.iconst 0, 1) := by decide +kernel
theorem dX7_addAddress_3 : decode cX7_addAddress 3 = .ok (.bipush 99, 2) := by decide +kernel
theorem dX7_addAddress_5 : decode cX7_addAddress 5 = .ok (.invokestatic 85, 3) := by decide +kernel
theorem dX7_addAddress_8 : decode cX7_addAddress 8 = .ok (.ifCond .ne 7, 3) := by decide +kernel
theorem dX7_addAddress_11 : decode cX7_addAddress 11 = .ok (.iconst 1, 1) := by decide +kernel
theorem dX7_addAddress_12 : decode cX7_addAddress 12 = .ok (.goto 17, 3) := by decide +kernel
theorem dX7_addAddress_15 : decode cX7_addAddress 15 = .ok (.aload_n 0, 1) := by decide +kernel
theorem dX7_addAddress_16 : decode cX7_addAddress 16 = .ok (.getfield 82, 3) := by decide +kernel
theorem dX7_addAddress_19 : decode cX7_addAddress 19 = .ok (.bipush 12, 2) := by decide +kernel
theorem dX7_addAddress_21 : decode cX7_addAddress 21 = .ok (.if_icmp .ne 7, 3) := by decide +kernel
theorem dX7_addAddress_24 : decode cX7_addAddress 24 = .ok (.iconst 2, 1) := by decide +kernel
theorem dX7_addAddress_25 : decode cX7_addAddress 25 = .ok (.goto 4, 3) := by decide +kernel
theorem dX7_addAddress_28 : decode cX7_addAddress 28 = .ok (.iconst 0, 1) := by decide +kernel
theorem dX7_addAddress_29 : decode cX7_addAddress 29 = .ok (.putfield 79, 3) := by decide +kernel
theorem dX7_addAddress_32 : decode cX7_addAddress 32 = .ok (.aload_n 0, 1) := by decide +kernel
theorem dX7_addAddress_33 : decode cX7_addAddress 33 = .ok (.getfield 79, 3) := by decide +kernel
theorem dX7_addAddress_36 : decode cX7_addAddress 36 = .ok (.ifCond .le 5, 3) := by decide +kernel
theorem dX7_addAddress_39 : decode cX7_addAddress 39 = .ok (.iconst 0, 1) := by decide +kernel
theorem dX7_addAddress_40 : decode cX7_addAddress 40 = .ok (.ireturn, 1) := by decide +kernel
theorem dX7_addAddress_41 : decode cX7_addAddress 41 = .ok (.aload_n 0, 1) := by decide +kernel
theorem dX7_addAddress_42 : decode cX7_addAddress 42 = .ok (.getfield 9, 3) := by decide +kernel
theorem dX7_addAddress_45 : decode cX7_addAddress 45 = .ok (.aload_n 0, 1) := by decide +kernel
theorem dX7_addAddress_46 : decode cX7_addAddress 46 = .ok (.getfield 82, 3) := by decide +kernel
theorem dX7_addAddress_49 : decode cX7_addAddress 49 = .ok (.iload_n 1, 1) := by decide +kernel
theorem dX7_addAddress_50 : decode cX7_addAddress 50 = .ok (.iastore, 1) := by decide +kernel
theorem dX7_addAddress_51 : decode cX7_addAddress 51 = .ok (.aload_n 0, 1) := by decide +kernel
theorem dX7_addAddress_52 : decode cX7_addAddress 52 = .ok (.dup, 1) := by decide +kernel
theorem dX7_addAddress_53 : decode cX7_addAddress 53 = .ok (.getfield 82, 3) := by decide +kernel
theorem dX7_addAddress_56 : decode cX7_addAddress 56 = .ok (.iconst 1, 1) := by decide +kernel
theorem dX7_addAddress_57 : decode cX7_addAddress 57 = .ok (.iadd, 1) := by decide +kernel
theorem dX7_addAddress_58 : decode cX7_addAddress 58 = .ok (.putfield 82, 3) := by decide +kernel
theorem dX7_addAddress_61 : decode cX7_addAddress 61 = .ok (.aload_n 0, 1) := by decide +kernel
theorem dX7_addAddress_62 : decode cX7_addAddress 62 = .ok (.getfield 82, 3) := by decide +kernel
theorem dX7_addAddress_65 : decode cX7_addAddress 65 = .ok (.iconst 1, 1) := by decide +kernel
theorem dX7_addAddress_66 : decode cX7_addAddress 66 = .ok (.isub, 1) := by decide +kernel
theorem dX7_addAddress_67 : decode cX7_addAddress 67 = .ok (.ireturn, 1) := by decide +kernel
theorem dX7_join_0 : decode cX7_join 0 = .ok (.aload_n 0, 1) := by decide +kernel
theorem dX7_join_1 : decode cX7_join 1 = .ok (.aload_n 0, 1) := by decide +kernel
theorem dX7_join_2 : decode cX7_join 2 = .ok (.iload_n 1, 1) := by decide +kernel
theorem dX7_join_3 : decode cX7_join 3 = .ok (.invokevirtual 98, 3) := by decide +kernel
theorem dX7_join_6 : decode cX7_join 6 = .ok (.ifCond .eq 11, 3) := by decide +kernel
theorem dX7_join_9 : decode cX7_join 9 = .ok (.aload_n 0, 1) := by decide +kernel
theorem dX7_join_10 : decode cX7_join 10 = .ok (.iload_n 2, 1) := by decide +kernel
theorem dX7_join_11 : decode cX7_join 11 = .ok (.invokevirtual 98, 3) := by decide +kernel
theorem dX7_join_14 : decode cX7_join 14 = .ok (.ifCond .ne 7, 3) := by decide +kernel
theorem dX7_join_17 : decode cX7_join 17 = .ok (.iconst 1, 1) := by decide +kernel
theorem dX7_join_18 : decode cX7_join 18 = .ok (.goto 13, 3) := by decide +kernel
theorem dX7_join_21 : decode cX7_join 21 = .ok (.iload_n 1, 1) := by decide +kernel
theorem dX7_join_22 : decode cX7_join 22 = .ok (.iload_n 2, 1) := by decide +kernel
theorem dX7_join_23 : decode cX7_join 23 = .ok (.if_icmp .ne 7, 3) := by decide +kernel
theorem dX7_join_26 : decode cX7_join 26 = .ok (.iconst 2, 1) := by decide +kernel
theorem dX7_join_27 : decode cX7_join 27 = .ok (.goto 4, 3) := by decide +kernel
theorem dX7_join_30 : decode cX7_join 30 = .ok (.iconst 0, 1) := by decide +kernel
theorem dX7_join_31 : decode cX7_join 31 = .ok (.putfield 79, 3) := by decide +kernel
theorem dX7_join_34 : decode cX7_join 34 = .ok (.aload_n 0, 1) := by decide +kernel
theorem dX7_join_35 : decode cX7_join 35 = .ok (.getfield 79, 3) := by decide +kernel
theorem dX7_join_38 : decode cX7_join 38 = .ok (.ifCond .le 5, 3) := by decide +kernel
theorem dX7_join_41 : decode cX7_join 41 = .ok (.iconst 0, 1) := by decide +kernel
theorem dX7_join_42 : decode cX7_join 42 = .ok (.ireturn, 1) := by decide +kernel
theorem dX7_join_43 : decode cX7_join 43 = .ok (.iconst 0, 1) := by decide +kernel
theorem dX7_join_44 : decode cX7_join 44 = .ok (.istore_n 3, 1) := by decide +kernel
theorem dX7_join_45 : decode cX7_join 45 = .ok (.iconst 0, 1) := by decide +kernel
theorem dX7_join_46 : decode cX7_join 46 = .ok (.istore 4, 2) := by decide +kernel
theorem dX7_join_48 : decode cX7_join 48 = .ok (.iload 4, 2) := by decide +kernel
theorem dX7_join_50 : decode cX7_join 50 = .ok (.aload_n 0, 1) := by decide +kernel
theorem dX7_join_51 : decode cX7_join 51 = .ok (.getfield 89, 3) := by decide +kernel
theorem dX7_join_54 : decode cX7_join 54 = .ok (.if_icmp .ge 57, 3) := by decide +kernel
theorem dX7_join_57 : decode cX7_join 57 = .ok (.iload_n 3, 1) := by decide +kernel
theorem dX7_join_58 : decode cX7_join 58 = .ok (.aload_n 0, 1) := by decide +kernel
theorem dX7_join_59 : decode cX7_join 59 = .ok (.getfield 20, 3) := by decide +kernel
theorem dX7_join_62 : decode cX7_join 62 = .ok (.iload 4, 2) := by decide +kernel
theorem dX7_join_64 : decode cX7_join 64 = .ok (.iaload, 1) := by decide +kernel
theorem dX7_join_65 : decode cX7_join 65 = .ok (.iload_n 2, 1) := by decide +kernel
theorem dX7_join_66 : decode cX7_join 66 = .ok (.if_icmp .ne 7, 3) := by decide +kernel
theorem dX7_join_69 : decode cX7_join 69 = .ok (.iconst 1, 1) := by decide +kernel
theorem dX7_join_70 : decode cX7_join 70 = .ok (.goto 4, 3) := by decide +kernel
theorem dX7_join_73 : decode cX7_join 73 = .ok (.iconst 0, 1) := by decide +kernel
theorem dX7_join_74 : decode cX7_join 74 = .ok (.iadd, 1) := by decide +kernel
theorem dX7_join_75 : decode cX7_join 75 = .ok (.istore_n 3, 1) := by decide +kernel
theorem dX7_join_76 : decode cX7_join 76 = .ok (.aload_n 0, 1) := by decide +kernel
theorem dX7_join_77 : decode cX7_join 77 = .ok (.getfield 20, 3) := by decide +kernel
theorem dX7_join_80 : decode cX7_join 80 = .ok (.iload 4, 2) := by decide +kernel
theorem dX7_join_82 : decode cX7_join 82 = .ok (.aload_n 0, 1) := by decide +kernel
theorem dX7_join_83 : decode cX7_join 83 = .ok (.getfield 20, 3) := by decide +kernel
theorem dX7_join_86 : decode cX7_join 86 = .ok (.iload 4, 2) := by decide +kernel
theorem dX7_join_88 : decode cX7_join 88 = .ok (.iaload, 1) := by decide +kernel
theorem dX7_join_89 : decode cX7_join 89 = .ok (.iload_n 2, 1) := by decide +kernel
theorem dX7_join_90 : decode cX7_join 90 = .ok (.if_icmp .ne 7, 3) := by decide +kernel
theorem dX7_join_93 : decode cX7_join 93 = .ok (.iload_n 1, 1) := by decide +kernel
theorem dX7_join_94 : decode cX7_join 94 = .ok (.goto 10, 3) := by decide +kernel
theorem dX7_join_97 : decode cX7_join 97 = .ok (.aload_n 0, 1) := by decide +kernel
theorem dX7_join_98 : decode cX7_join 98 = .ok (.getfield 20, 3) := by decide +kernel
theorem dX7_join_101 : decode cX7_join 101 = .ok (.iload 4, 2) := by decide +kernel
theorem dX7_join_103 : decode cX7_join 103 = .ok (.iaload, 1) := by decide +kernel
theorem dX7_join_104 : decode cX7_join 104 = .ok (.iastore, 1) := by decide +kernel
theorem dX7_join_105 : decode cX7_join 105 = .ok (.iinc 4 1, 3) := by decide +kernel
theorem dX7_join_108 : decode cX7_join 108 = .ok (.goto (-60), 3) := by decide +kernel
theorem dX7_join_111 : decode cX7_join 111 = .ok (.aload_n 0, 1) := by decide +kernel
theorem dX7_join_112 : decode cX7_join 112 = .ok (.getfield 13, 3) := by decide +kernel
theorem dX7_join_115 : decode cX7_join 115 = .ok (.iload_n 1, 1) := by decide +kernel
theorem dX7_join_116 : decode cX7_join 116 = .ok (.dup2, 1) := by decide +kernel
theorem dX7_join_117 : decode cX7_join 117 = .ok (.iaload, 1) := by decide +kernel
theorem dX7_join_118 : decode cX7_join 118 = .ok (.aload_n 0, 1) := by decide +kernel
theorem dX7_join_119 : decode cX7_join 119 = .ok (.getfield 13, 3) := by decide +kernel
theorem dX7_join_122 : decode cX7_join 122 = .ok (.iload_n 2, 1) := by decide +kernel
theorem dX7_join_123 : decode cX7_join 123 = .ok (.iaload, 1) := by decide +kernel
theorem dX7_join_124 : decode cX7_join 124 = .ok (.iadd, 1) := by decide +kernel
theorem dX7_join_125 : decode cX7_join 125 = .ok (.iastore, 1) := by decide +kernel
theorem dX7_join_126 : decode cX7_join 126 = .ok (.aload_n 0, 1) := by decide +kernel
theorem dX7_join_127 : decode cX7_join 127 = .ok (.getfield 16, 3) := by decide +kernel
theorem dX7_join_130 : decode cX7_join 130 = .ok (.iload_n 2, 1) := by decide +kernel
theorem dX7_join_131 : decode cX7_join 131 = .ok (.iconst 1, 1) := by decide +kernel
theorem dX7_join_132 : decode cX7_join 132 = .ok (.bastore, 1) := by decide +kernel
theorem dX7_join_133 : decode cX7_join 133 = .ok (.iload_n 3, 1) := by decide +kernel
theorem dX7_join_134 : decode cX7_join 134 = .ok (.ireturn, 1) := by decide +kernel
theorem dX7_addPerson_0 : decode cX7_addPerson 0 = .ok (.aload_n 0, 1) := by decide +kernel
theorem dX7_addPerson_1 : decode cX7_addPerson 1 = .ok (.aload_n 0, 1) := by decide +kernel
theorem dX7_addPerson_2 : decode cX7_addPerson 2 = .ok (.iload_n 1, 1) := by decide +kernel
theorem dX7_addPerson_3 : decode cX7_addPerson 3 = .ok (.invokevirtual 98, 3) := by decide +kernel
theorem dX7_addPerson_6 : decode cX7_addPerson 6 = .ok (.ifCond .ne 7, 3) := by decide +kernel
theorem dX7_addPerson_9 : decode cX7_addPerson 9 = .ok (.iconst 1, 1) := by decide +kernel
theorem dX7_addPerson_10 : decode cX7_addPerson 10 = .ok (.goto 31, 3) := by decide +kernel
theorem dX7_addPerson_13 : decode cX7_addPerson 13 = .ok (.iload_n 2, 1) := by decide +kernel
theorem dX7_addPerson_14 : decode cX7_addPerson 14 = .ok (.iconst 0, 1) := by decide +kernel
theorem dX7_addPerson_15 : decode cX7_addPerson 15 = .ok (.bipush 7, 2) := by decide +kernel
theorem dX7_addPerson_17 : decode cX7_addPerson 17 = .ok (.invokestatic 85, 3) := by decide +kernel
theorem dX7_addPerson_20 : decode cX7_addPerson 20 = .ok (.ifCond .ne 7, 3) := by decide +kernel
theorem dX7_addPerson_23 : decode cX7_addPerson 23 = .ok (.iconst 2, 1) := by decide +kernel
theorem dX7_addPerson_24 : decode cX7_addPerson 24 = .ok (.goto 17, 3) := by decide +kernel
theorem dX7_addPerson_27 : decode cX7_addPerson 27 = .ok (.aload_n 0, 1) := by decide +kernel
theorem dX7_addPerson_28 : decode cX7_addPerson 28 = .ok (.getfield 89, 3) := by decide +kernel
theorem dX7_addPerson_31 : decode cX7_addPerson 31 = .ok (.bipush 24, 2) := by decide +kernel
theorem dX7_addPerson_33 : decode cX7_addPerson 33 = .ok (.if_icmp .ne 7, 3) := by decide +kernel
theorem dX7_addPerson_36 : decode cX7_addPerson 36 = .ok (.iconst 3, 1) := by decide +kernel
theorem dX7_addPerson_37 : decode cX7_addPerson 37 = .ok (.goto 4, 3) := by decide +kernel
theorem dX7_addPerson_40 : decode cX7_addPerson 40 = .ok (.iconst 0, 1) := by decide +kernel
theorem dX7_addPerson_41 : decode cX7_addPerson 41 = .ok (.putfield 79, 3) := by decide +kernel
theorem dX7_addPerson_44 : decode cX7_addPerson 44 = .ok (.aload_n 0, 1) := by decide +kernel
theorem dX7_addPerson_45 : decode cX7_addPerson 45 = .ok (.getfield 79, 3) := by decide +kernel
theorem dX7_addPerson_48 : decode cX7_addPerson 48 = .ok (.ifCond .le 5, 3) := by decide +kernel
theorem dX7_addPerson_51 : decode cX7_addPerson 51 = .ok (.iconst 0, 1) := by decide +kernel
theorem dX7_addPerson_52 : decode cX7_addPerson 52 = .ok (.ireturn, 1) := by decide +kernel
theorem dX7_addPerson_53 : decode cX7_addPerson 53 = .ok (.aload_n 0, 1) := by decide +kernel
theorem dX7_addPerson_54 : decode cX7_addPerson 54 = .ok (.getfield 20, 3) := by decide +kernel
theorem dX7_addPerson_57 : decode cX7_addPerson 57 = .ok (.aload_n 0, 1) := by decide +kernel
theorem dX7_addPerson_58 : decode cX7_addPerson 58 = .ok (.getfield 89, 3) := by decide +kernel
theorem dX7_addPerson_61 : decode cX7_addPerson 61 = .ok (.iload_n 1, 1) := by decide +kernel
theorem dX7_addPerson_62 : decode cX7_addPerson 62 = .ok (.iastore, 1) := by decide +kernel
theorem dX7_addPerson_63 : decode cX7_addPerson 63 = .ok (.aload_n 0, 1) := by decide +kernel
theorem dX7_addPerson_64 : decode cX7_addPerson 64 = .ok (.getfield 23, 3) := by decide +kernel
theorem dX7_addPerson_67 : decode cX7_addPerson 67 = .ok (.aload_n 0, 1) := by decide +kernel
theorem dX7_addPerson_68 : decode cX7_addPerson 68 = .ok (.getfield 89, 3) := by decide +kernel
theorem dX7_addPerson_71 : decode cX7_addPerson 71 = .ok (.iload_n 2, 1) := by decide +kernel
theorem dX7_addPerson_72 : decode cX7_addPerson 72 = .ok (.iastore, 1) := by decide +kernel
theorem dX7_addPerson_73 : decode cX7_addPerson 73 = .ok (.aload_n 0, 1) := by decide +kernel
theorem dX7_addPerson_74 : decode cX7_addPerson 74 = .ok (.getfield 26, 3) := by decide +kernel
theorem dX7_addPerson_77 : decode cX7_addPerson 77 = .ok (.aload_n 0, 1) := by decide +kernel
theorem dX7_addPerson_78 : decode cX7_addPerson 78 = .ok (.getfield 89, 3) := by decide +kernel
theorem dX7_addPerson_81 : decode cX7_addPerson 81 = .ok (.bipush 45, 2) := by decide +kernel
theorem dX7_addPerson_83 : decode cX7_addPerson 83 = .ok (.castore, 1) := by decide +kernel
theorem dX7_addPerson_84 : decode cX7_addPerson 84 = .ok (.aload_n 0, 1) := by decide +kernel
theorem dX7_addPerson_85 : decode cX7_addPerson 85 = .ok (.dup, 1) := by decide +kernel
theorem dX7_addPerson_86 : decode cX7_addPerson 86 = .ok (.getfield 89, 3) := by decide +kernel
theorem dX7_addPerson_89 : decode cX7_addPerson 89 = .ok (.iconst 1, 1) := by decide +kernel
theorem dX7_addPerson_90 : decode cX7_addPerson 90 = .ok (.iadd, 1) := by decide +kernel
theorem dX7_addPerson_91 : decode cX7_addPerson 91 = .ok (.putfield 89, 3) := by decide +kernel
theorem dX7_addPerson_94 : decode cX7_addPerson 94 = .ok (.aload_n 0, 1) := by decide +kernel
theorem dX7_addPerson_95 : decode cX7_addPerson 95 = .ok (.getfield 89, 3) := by decide +kernel
theorem dX7_addPerson_98 : decode cX7_addPerson 98 = .ok (.iconst 1, 1) := by decide +kernel
theorem dX7_addPerson_99 : decode cX7_addPerson 99 = .ok (.isub, 1) := by decide +kernel
theorem dX7_addPerson_100 : decode cX7_addPerson 100 = .ok (.ireturn, 1) := by decide +kernel
theorem dX7_setFlags_0 : decode cX7_setFlags 0 = .ok (.aload_n 0, 1) := by decide +kernel
theorem dX7_setFlags_1 : decode cX7_setFlags 1 = .ok (.aload_n 0, 1) := by decide +kernel
theorem dX7_setFlags_2 : decode cX7_setFlags 2 = .ok (.iload_n 1, 1) := by decide +kernel
theorem dX7_setFlags_3 : decode cX7_setFlags 3 = .ok (.invokevirtual 102, 3) := by decide +kernel
theorem dX7_setFlags_6 : decode cX7_setFlags 6 = .ok (.ifCond .ne 7, 3) := by decide +kernel
theorem dX7_setFlags_9 : decode cX7_setFlags 9 = .ok (.iconst 1, 1) := by decide +kernel
theorem dX7_setFlags_10 : decode cX7_setFlags 10 = .ok (.goto 18, 3) := by decide +kernel
theorem dX7_setFlags_13 : decode cX7_setFlags 13 = .ok (.iload_n 2, 1) := by decide +kernel
theorem dX7_setFlags_14 : decode cX7_setFlags 14 = .ok (.iconst 0, 1) := by decide +kernel
theorem dX7_setFlags_15 : decode cX7_setFlags 15 = .ok (.bipush 7, 2) := by decide +kernel
theorem dX7_setFlags_17 : decode cX7_setFlags 17 = .ok (.invokestatic 85, 3) := by decide +kernel
theorem dX7_setFlags_20 : decode cX7_setFlags 20 = .ok (.ifCond .ne 7, 3) := by decide +kernel
theorem dX7_setFlags_23 : decode cX7_setFlags 23 = .ok (.iconst 2, 1) := by decide +kernel
theorem dX7_setFlags_24 : decode cX7_setFlags 24 = .ok (.goto 4, 3) := by decide +kernel
theorem dX7_setFlags_27 : decode cX7_setFlags 27 = .ok (.iconst 0, 1) := by decide +kernel
theorem dX7_setFlags_28 : decode cX7_setFlags 28 = .ok (.putfield 79, 3) := by decide +kernel
theorem dX7_setFlags_31 : decode cX7_setFlags 31 = .ok (.aload_n 0, 1) := by decide +kernel
theorem dX7_setFlags_32 : decode cX7_setFlags 32 = .ok (.getfield 79, 3) := by decide +kernel
theorem dX7_setFlags_35 : decode cX7_setFlags 35 = .ok (.ifCond .le 5, 3) := by decide +kernel
theorem dX7_setFlags_38 : decode cX7_setFlags 38 = .ok (.iconst 0, 1) := by decide +kernel
theorem dX7_setFlags_39 : decode cX7_setFlags 39 = .ok (.ireturn, 1) := by decide +kernel
theorem dX7_setFlags_40 : decode cX7_setFlags 40 = .ok (.aload_n 0, 1) := by decide +kernel
theorem dX7_setFlags_41 : decode cX7_setFlags 41 = .ok (.getfield 23, 3) := by decide +kernel
theorem dX7_setFlags_44 : decode cX7_setFlags 44 = .ok (.iload_n 1, 1) := by decide +kernel
theorem dX7_setFlags_45 : decode cX7_setFlags 45 = .ok (.iaload, 1) := by decide +kernel
theorem dX7_setFlags_46 : decode cX7_setFlags 46 = .ok (.istore_n 3, 1) := by decide +kernel
theorem dX7_setFlags_47 : decode cX7_setFlags 47 = .ok (.aload_n 0, 1) := by decide +kernel
theorem dX7_setFlags_48 : decode cX7_setFlags 48 = .ok (.getfield 23, 3) := by decide +kernel
theorem dX7_setFlags_51 : decode cX7_setFlags 51 = .ok (.iload_n 1, 1) := by decide +kernel
theorem dX7_setFlags_52 : decode cX7_setFlags 52 = .ok (.iload_n 2, 1) := by decide +kernel
theorem dX7_setFlags_53 : decode cX7_setFlags 53 = .ok (.iastore, 1) := by decide +kernel
theorem dX7_setFlags_54 : decode cX7_setFlags 54 = .ok (.iload_n 3, 1) := by decide +kernel
theorem dX7_setFlags_55 : decode cX7_setFlags 55 = .ok (.ireturn, 1) := by decide +kernel
theorem dX7_move_0 : decode cX7_move 0 = .ok (.aload_n 0, 1) := by decide +kernel
theorem dX7_move_1 : decode cX7_move 1 = .ok (.aload_n 0, 1) := by decide +kernel
theorem dX7_move_2 : decode cX7_move 2 = .ok (.iload_n 1, 1) := by decide +kernel
theorem dX7_move_3 : decode cX7_move 3 = .ok (.invokevirtual 102, 3) := by decide +kernel
theorem dX7_move_6 : decode cX7_move 6 = .ok (.ifCond .eq 11, 3) := by decide +kernel
theorem dX7_move_9 : decode cX7_move 9 = .ok (.aload_n 0, 1) := by decide +kernel
theorem dX7_move_10 : decode cX7_move 10 = .ok (.iload_n 2, 1) := by decide +kernel
theorem dX7_move_11 : decode cX7_move 11 = .ok (.invokevirtual 98, 3) := by decide +kernel
theorem dX7_move_14 : decode cX7_move 14 = .ok (.ifCond .ne 7, 3) := by decide +kernel
theorem dX7_move_17 : decode cX7_move 17 = .ok (.iconst 1, 1) := by decide +kernel
theorem dX7_move_18 : decode cX7_move 18 = .ok (.goto 4, 3) := by decide +kernel
theorem dX7_move_21 : decode cX7_move 21 = .ok (.iconst 0, 1) := by decide +kernel
theorem dX7_move_22 : decode cX7_move 22 = .ok (.putfield 79, 3) := by decide +kernel
theorem dX7_move_25 : decode cX7_move 25 = .ok (.aload_n 0, 1) := by decide +kernel
theorem dX7_move_26 : decode cX7_move 26 = .ok (.getfield 79, 3) := by decide +kernel
theorem dX7_move_29 : decode cX7_move 29 = .ok (.ifCond .le 5, 3) := by decide +kernel
theorem dX7_move_32 : decode cX7_move 32 = .ok (.iconst 0, 1) := by decide +kernel
theorem dX7_move_33 : decode cX7_move 33 = .ok (.ireturn, 1) := by decide +kernel
theorem dX7_move_34 : decode cX7_move 34 = .ok (.aload_n 0, 1) := by decide +kernel
theorem dX7_move_35 : decode cX7_move 35 = .ok (.getfield 20, 3) := by decide +kernel
theorem dX7_move_38 : decode cX7_move 38 = .ok (.iload_n 1, 1) := by decide +kernel
theorem dX7_move_39 : decode cX7_move 39 = .ok (.iaload, 1) := by decide +kernel
theorem dX7_move_40 : decode cX7_move 40 = .ok (.istore_n 3, 1) := by decide +kernel
theorem dX7_move_41 : decode cX7_move 41 = .ok (.aload_n 0, 1) := by decide +kernel
theorem dX7_move_42 : decode cX7_move 42 = .ok (.getfield 20, 3) := by decide +kernel
theorem dX7_move_45 : decode cX7_move 45 = .ok (.iload_n 1, 1) := by decide +kernel
theorem dX7_move_46 : decode cX7_move 46 = .ok (.iload_n 2, 1) := by decide +kernel
theorem dX7_move_47 : decode cX7_move 47 = .ok (.iastore, 1) := by decide +kernel
theorem dX7_move_48 : decode cX7_move 48 = .ok (.aload_n 0, 1) := by decide +kernel
theorem dX7_move_49 : decode cX7_move 49 = .ok (.getfield 26, 3) := by decide +kernel
theorem dX7_move_52 : decode cX7_move 52 = .ok (.iload_n 1, 1) := by decide +kernel
theorem dX7_move_53 : decode cX7_move 53 = .ok (.aload_n 0, 1) := by decide +kernel
theorem dX7_move_54 : decode cX7_move 54 = .ok (.getfield 26, 3) := by decide +kernel
theorem dX7_move_57 : decode cX7_move 57 = .ok (.iload_n 1, 1) := by decide +kernel
theorem dX7_move_58 : decode cX7_move 58 = .ok (.caload, 1) := by decide +kernel
theorem dX7_move_59 : decode cX7_move 59 = .ok (.bipush 109, 2) := by decide +kernel
theorem dX7_move_61 : decode cX7_move 61 = .ok (.if_icmp .ne 8, 3) := by decide +kernel
theorem dX7_move_64 : decode cX7_move 64 = .ok (.bipush 45, 2) := by decide +kernel
theorem dX7_move_66 : decode cX7_move 66 = .ok (.goto 9, 3) := by decide +kernel
theorem dX7_move_69 : decode cX7_move 69 = .ok (.aload_n 0, 1) := by decide +kernel
theorem dX7_move_70 : decode cX7_move 70 = .ok (.getfield 26, 3) := by decide +kernel
theorem dX7_move_73 : decode cX7_move 73 = .ok (.iload_n 1, 1) := by decide +kernel
theorem dX7_move_74 : decode cX7_move 74 = .ok (.caload, 1) := by decide +kernel
theorem dX7_move_75 : decode cX7_move 75 = .ok (.castore, 1) := by decide +kernel
theorem dX7_move_76 : decode cX7_move 76 = .ok (.iload_n 3, 1) := by decide +kernel
theorem dX7_move_77 : decode cX7_move 77 = .ok (.ireturn, 1) := by decide +kernel
theorem dX7_suppress_0 : decode cX7_suppress 0 = .ok (.aload_n 0, 1) := by decide +kernel
theorem dX7_suppress_1 : decode cX7_suppress 1 = .ok (.aload_n 0, 1) := by decide +kernel
theorem dX7_suppress_2 : decode cX7_suppress 2 = .ok (.iload_n 1, 1) := by decide +kernel
theorem dX7_suppress_3 : decode cX7_suppress 3 = .ok (.invokevirtual 102, 3) := by decide +kernel
theorem dX7_suppress_6 : decode cX7_suppress 6 = .ok (.ifCond .ne 7, 3) := by decide +kernel
theorem dX7_suppress_9 : decode cX7_suppress 9 = .ok (.iconst 1, 1) := by decide +kernel
theorem dX7_suppress_10 : decode cX7_suppress 10 = .ok (.goto 26, 3) := by decide +kernel
theorem dX7_suppress_13 : decode cX7_suppress 13 = .ok (.iload_n 2, 1) := by decide +kernel
theorem dX7_suppress_14 : decode cX7_suppress 14 = .ok (.bipush 109, 2) := by decide +kernel
theorem dX7_suppress_16 : decode cX7_suppress 16 = .ok (.if_icmp .eq 19, 3) := by decide +kernel
theorem dX7_suppress_19 : decode cX7_suppress 19 = .ok (.iload_n 2, 1) := by decide +kernel
theorem dX7_suppress_20 : decode cX7_suppress 20 = .ok (.bipush 100, 2) := by decide +kernel
theorem dX7_suppress_22 : decode cX7_suppress 22 = .ok (.if_icmp .eq 13, 3) := by decide +kernel
theorem dX7_suppress_25 : decode cX7_suppress 25 = .ok (.iload_n 2, 1) := by decide +kernel
theorem dX7_suppress_26 : decode cX7_suppress 26 = .ok (.bipush 111, 2) := by decide +kernel
theorem dX7_suppress_28 : decode cX7_suppress 28 = .ok (.if_icmp .eq 7, 3) := by decide +kernel
theorem dX7_suppress_31 : decode cX7_suppress 31 = .ok (.iconst 2, 1) := by decide +kernel
theorem dX7_suppress_32 : decode cX7_suppress 32 = .ok (.goto 4, 3) := by decide +kernel
theorem dX7_suppress_35 : decode cX7_suppress 35 = .ok (.iconst 0, 1) := by decide +kernel
theorem dX7_suppress_36 : decode cX7_suppress 36 = .ok (.putfield 79, 3) := by decide +kernel
theorem dX7_suppress_39 : decode cX7_suppress 39 = .ok (.aload_n 0, 1) := by decide +kernel
theorem dX7_suppress_40 : decode cX7_suppress 40 = .ok (.getfield 79, 3) := by decide +kernel
theorem dX7_suppress_43 : decode cX7_suppress 43 = .ok (.ifCond .le 6, 3) := by decide +kernel
theorem dX7_suppress_46 : decode cX7_suppress 46 = .ok (.bipush 45, 2) := by decide +kernel
theorem dX7_suppress_48 : decode cX7_suppress 48 = .ok (.ireturn, 1) := by decide +kernel
theorem dX7_suppress_49 : decode cX7_suppress 49 = .ok (.aload_n 0, 1) := by decide +kernel
theorem dX7_suppress_50 : decode cX7_suppress 50 = .ok (.getfield 26, 3) := by decide +kernel
theorem dX7_suppress_53 : decode cX7_suppress 53 = .ok (.iload_n 1, 1) := by decide +kernel
theorem dX7_suppress_54 : decode cX7_suppress 54 = .ok (.caload, 1) := by decide +kernel
theorem dX7_suppress_55 : decode cX7_suppress 55 = .ok (.istore_n 3, 1) := by decide +kernel
theorem dX7_suppress_56 : decode cX7_suppress 56 = .ok (.aload_n 0, 1) := by decide +kernel
theorem dX7_suppress_57 : decode cX7_suppress 57 = .ok (.getfield 26, 3) := by decide +kernel
theorem dX7_suppress_60 : decode cX7_suppress 60 = .ok (.iload_n 1, 1) := by decide +kernel
theorem dX7_suppress_61 : decode cX7_suppress 61 = .ok (.iload_n 2, 1) := by decide +kernel
theorem dX7_suppress_62 : decode cX7_suppress 62 = .ok (.castore, 1) := by decide +kernel
theorem dX7_suppress_63 : decode cX7_suppress 63 = .ok (.iload_n 3, 1) := by decide +kernel
theorem dX7_suppress_64 : decode cX7_suppress 64 = .ok (.ireturn, 1) := by decide +kernel
theorem dX7_allow_0 : decode cX7_allow 0 = .ok (.aload_n 0, 1) := by decide +kernel
theorem dX7_allow_1 : decode cX7_allow 1 = .ok (.aload_n 0, 1) := by decide +kernel
theorem dX7_allow_2 : decode cX7_allow 2 = .ok (.iload_n 1, 1) := by decide +kernel
theorem dX7_allow_3 : decode cX7_allow 3 = .ok (.invokevirtual 102, 3) := by decide +kernel
theorem dX7_allow_6 : decode cX7_allow 6 = .ok (.ifCond .ne 7, 3) := by decide +kernel
theorem dX7_allow_9 : decode cX7_allow 9 = .ok (.iconst 1, 1) := by decide +kernel
theorem dX7_allow_10 : decode cX7_allow 10 = .ok (.goto 30, 3) := by decide +kernel
theorem dX7_allow_13 : decode cX7_allow 13 = .ok (.aload_n 0, 1) := by decide +kernel
theorem dX7_allow_14 : decode cX7_allow 14 = .ok (.getfield 26, 3) := by decide +kernel
theorem dX7_allow_17 : decode cX7_allow 17 = .ok (.iload_n 1, 1) := by decide +kernel
theorem dX7_allow_18 : decode cX7_allow 18 = .ok (.caload, 1) := by decide +kernel
theorem dX7_allow_19 : decode cX7_allow 19 = .ok (.bipush 45, 2) := by decide +kernel
theorem dX7_allow_21 : decode cX7_allow 21 = .ok (.if_icmp .eq 14, 3) := by decide +kernel
theorem dX7_allow_24 : decode cX7_allow 24 = .ok (.aload_n 0, 1) := by decide +kernel
theorem dX7_allow_25 : decode cX7_allow 25 = .ok (.getfield 26, 3) := by decide +kernel
theorem dX7_allow_28 : decode cX7_allow 28 = .ok (.iload_n 1, 1) := by decide +kernel
theorem dX7_allow_29 : decode cX7_allow 29 = .ok (.caload, 1) := by decide +kernel
theorem dX7_allow_30 : decode cX7_allow 30 = .ok (.bipush 100, 2) := by decide +kernel
theorem dX7_allow_32 : decode cX7_allow 32 = .ok (.if_icmp .ne 7, 3) := by decide +kernel
theorem dX7_allow_35 : decode cX7_allow 35 = .ok (.iconst 2, 1) := by decide +kernel
theorem dX7_allow_36 : decode cX7_allow 36 = .ok (.goto 4, 3) := by decide +kernel
theorem dX7_allow_39 : decode cX7_allow 39 = .ok (.iconst 0, 1) := by decide +kernel
theorem dX7_allow_40 : decode cX7_allow 40 = .ok (.putfield 79, 3) := by decide +kernel
theorem dX7_allow_43 : decode cX7_allow 43 = .ok (.aload_n 0, 1) := by decide +kernel
theorem dX7_allow_44 : decode cX7_allow 44 = .ok (.getfield 79, 3) := by decide +kernel
theorem dX7_allow_47 : decode cX7_allow 47 = .ok (.ifCond .le 6, 3) := by decide +kernel
theorem dX7_allow_50 : decode cX7_allow 50 = .ok (.bipush 45, 2) := by decide +kernel
theorem dX7_allow_52 : decode cX7_allow 52 = .ok (.ireturn, 1) := by decide +kernel
theorem dX7_allow_53 : decode cX7_allow 53 = .ok (.aload_n 0, 1) := by decide +kernel
theorem dX7_allow_54 : decode cX7_allow 54 = .ok (.getfield 26, 3) := by decide +kernel
theorem dX7_allow_57 : decode cX7_allow 57 = .ok (.iload_n 1, 1) := by decide +kernel
theorem dX7_allow_58 : decode cX7_allow 58 = .ok (.caload, 1) := by decide +kernel
theorem dX7_allow_59 : decode cX7_allow 59 = .ok (.istore_n 2, 1) := by decide +kernel
theorem dX7_allow_60 : decode cX7_allow 60 = .ok (.aload_n 0, 1) := by decide +kernel
theorem dX7_allow_61 : decode cX7_allow 61 = .ok (.getfield 26, 3) := by decide +kernel
theorem dX7_allow_64 : decode cX7_allow 64 = .ok (.iload_n 1, 1) := by decide +kernel
theorem dX7_allow_65 : decode cX7_allow 65 = .ok (.bipush 45, 2) := by decide +kernel
theorem dX7_allow_67 : decode cX7_allow 67 = .ok (.castore, 1) := by decide +kernel
theorem dX7_allow_68 : decode cX7_allow 68 = .ok (.iload_n 2, 1) := by decide +kernel
theorem dX7_allow_69 : decode cX7_allow 69 = .ok (.ireturn, 1) := by decide +kernel
theorem dX7_addressOf_0 : decode cX7_addressOf 0 = .ok (.aload_n 0, 1) := by decide +kernel
theorem dX7_addressOf_1 : decode cX7_addressOf 1 = .ok (.aload_n 0, 1) := by decide +kernel
theorem dX7_addressOf_2 : decode cX7_addressOf 2 = .ok (.iload_n 1, 1) := by decide +kernel
theorem dX7_addressOf_3 : decode cX7_addressOf 3 = .ok (.invokevirtual 102, 3) := by decide +kernel
theorem dX7_addressOf_6 : decode cX7_addressOf 6 = .ok (.ifCond .eq 7, 3) := by decide +kernel
theorem dX7_addressOf_9 : decode cX7_addressOf 9 = .ok (.iconst 0, 1) := by decide +kernel
theorem dX7_addressOf_10 : decode cX7_addressOf 10 = .ok (.goto 4, 3) := by decide +kernel
theorem dX7_addressOf_13 : decode cX7_addressOf 13 = .ok (.iconst 1, 1) := by decide +kernel
theorem dX7_addressOf_14 : decode cX7_addressOf 14 = .ok (.putfield 79, 3) := by decide +kernel
theorem dX7_addressOf_17 : decode cX7_addressOf 17 = .ok (.aload_n 0, 1) := by decide +kernel
theorem dX7_addressOf_18 : decode cX7_addressOf 18 = .ok (.getfield 79, 3) := by decide +kernel
theorem dX7_addressOf_21 : decode cX7_addressOf 21 = .ok (.ifCond .le 7, 3) := by decide +kernel
theorem dX7_addressOf_24 : decode cX7_addressOf 24 = .ok (.iconst 0, 1) := by decide +kernel
theorem dX7_addressOf_25 : decode cX7_addressOf 25 = .ok (.goto 9, 3) := by decide +kernel
theorem dX7_addressOf_28 : decode cX7_addressOf 28 = .ok (.aload_n 0, 1) := by decide +kernel
theorem dX7_addressOf_29 : decode cX7_addressOf 29 = .ok (.getfield 20, 3) := by decide +kernel
theorem dX7_addressOf_32 : decode cX7_addressOf 32 = .ok (.iload_n 1, 1) := by decide +kernel
theorem dX7_addressOf_33 : decode cX7_addressOf 33 = .ok (.iaload, 1) := by decide +kernel
theorem dX7_addressOf_34 : decode cX7_addressOf 34 = .ok (.ireturn, 1) := by decide +kernel
theorem dX7_reasonOf_0 : decode cX7_reasonOf 0 = .ok (.aload_n 0, 1) := by decide +kernel
theorem dX7_reasonOf_1 : decode cX7_reasonOf 1 = .ok (.aload_n 0, 1) := by decide +kernel
theorem dX7_reasonOf_2 : decode cX7_reasonOf 2 = .ok (.iload_n 1, 1) := by decide +kernel
theorem dX7_reasonOf_3 : decode cX7_reasonOf 3 = .ok (.invokevirtual 102, 3) := by decide +kernel
theorem dX7_reasonOf_6 : decode cX7_reasonOf 6 = .ok (.ifCond .eq 7, 3) := by decide +kernel
theorem dX7_reasonOf_9 : decode cX7_reasonOf 9 = .ok (.iconst 0, 1) := by decide +kernel
theorem dX7_reasonOf_10 : decode cX7_reasonOf 10 = .ok (.goto 4, 3) := by decide +kernel
theorem dX7_reasonOf_13 : decode cX7_reasonOf 13 = .ok (.iconst 1, 1) := by decide +kernel
theorem dX7_reasonOf_14 : decode cX7_reasonOf 14 = .ok (.putfield 79, 3) := by decide +kernel
theorem dX7_reasonOf_17 : decode cX7_reasonOf 17 = .ok (.aload_n 0, 1) := by decide +kernel
theorem dX7_reasonOf_18 : decode cX7_reasonOf 18 = .ok (.getfield 79, 3) := by decide +kernel
theorem dX7_reasonOf_21 : decode cX7_reasonOf 21 = .ok (.ifCond .le 8, 3) := by decide +kernel
theorem dX7_reasonOf_24 : decode cX7_reasonOf 24 = .ok (.bipush 45, 2) := by decide +kernel
theorem dX7_reasonOf_26 : decode cX7_reasonOf 26 = .ok (.goto 9, 3) := by decide +kernel
theorem dX7_reasonOf_29 : decode cX7_reasonOf 29 = .ok (.aload_n 0, 1) := by decide +kernel
theorem dX7_reasonOf_30 : decode cX7_reasonOf 30 = .ok (.getfield 26, 3) := by decide +kernel
theorem dX7_reasonOf_33 : decode cX7_reasonOf 33 = .ok (.iload_n 1, 1) := by decide +kernel
theorem dX7_reasonOf_34 : decode cX7_reasonOf 34 = .ok (.caload, 1) := by decide +kernel
theorem dX7_reasonOf_35 : decode cX7_reasonOf 35 = .ok (.ireturn, 1) := by decide +kernel
theorem dX7_strikes_0 : decode cX7_strikes 0 = .ok (.aload_n 0, 1) := by decide +kernel
theorem dX7_strikes_1 : decode cX7_strikes 1 = .ok (.aload_n 0, 1) := by decide +kernel
theorem dX7_strikes_2 : decode cX7_strikes 2 = .ok (.iload_n 1, 1) := by decide +kernel
theorem dX7_strikes_3 : decode cX7_strikes 3 = .ok (.invokevirtual 98, 3) := by decide +kernel
theorem dX7_strikes_6 : decode cX7_strikes 6 = .ok (.ifCond .eq 7, 3) := by decide +kernel
theorem dX7_strikes_9 : decode cX7_strikes 9 = .ok (.iconst 0, 1) := by decide +kernel
theorem dX7_strikes_10 : decode cX7_strikes 10 = .ok (.goto 4, 3) := by decide +kernel
theorem dX7_strikes_13 : decode cX7_strikes 13 = .ok (.iconst 1, 1) := by decide +kernel
theorem dX7_strikes_14 : decode cX7_strikes 14 = .ok (.putfield 79, 3) := by decide +kernel
theorem dX7_strikes_17 : decode cX7_strikes 17 = .ok (.aload_n 0, 1) := by decide +kernel
theorem dX7_strikes_18 : decode cX7_strikes 18 = .ok (.getfield 79, 3) := by decide +kernel
theorem dX7_strikes_21 : decode cX7_strikes 21 = .ok (.ifCond .le 7, 3) := by decide +kernel
theorem dX7_strikes_24 : decode cX7_strikes 24 = .ok (.iconst 0, 1) := by decide +kernel
theorem dX7_strikes_25 : decode cX7_strikes 25 = .ok (.goto 9, 3) := by decide +kernel
theorem dX7_strikes_28 : decode cX7_strikes 28 = .ok (.aload_n 0, 1) := by decide +kernel
theorem dX7_strikes_29 : decode cX7_strikes 29 = .ok (.getfield 13, 3) := by decide +kernel
theorem dX7_strikes_32 : decode cX7_strikes 32 = .ok (.iload_n 1, 1) := by decide +kernel
theorem dX7_strikes_33 : decode cX7_strikes 33 = .ok (.iaload, 1) := by decide +kernel
theorem dX7_strikes_34 : decode cX7_strikes 34 = .ok (.ireturn, 1) := by decide +kernel
theorem dX7_addTemplate_0 : decode cX7_addTemplate 0 = .ok (.aload_n 0, 1) := by decide +kernel
theorem dX7_addTemplate_1 : decode cX7_addTemplate 1 = .ok (.aload_n 0, 1) := by decide +kernel
theorem dX7_addTemplate_2 : decode cX7_addTemplate 2 = .ok (.getfield 92, 3) := by decide +kernel
theorem dX7_addTemplate_5 : decode cX7_addTemplate 5 = .ok (.iconst 4, 1) := by decide +kernel
theorem dX7_addTemplate_6 : decode cX7_addTemplate 6 = .ok (.if_icmp .ne 7, 3) := by decide +kernel
theorem dX7_addTemplate_9 : decode cX7_addTemplate 9 = .ok (.iconst 1, 1) := by decide +kernel
theorem dX7_addTemplate_10 : decode cX7_addTemplate 10 = .ok (.goto 4, 3) := by decide +kernel
theorem dX7_addTemplate_13 : decode cX7_addTemplate 13 = .ok (.iconst 0, 1) := by decide +kernel
theorem dX7_addTemplate_14 : decode cX7_addTemplate 14 = .ok (.putfield 79, 3) := by decide +kernel
theorem dX7_addTemplate_17 : decode cX7_addTemplate 17 = .ok (.aload_n 0, 1) := by decide +kernel
theorem dX7_addTemplate_18 : decode cX7_addTemplate 18 = .ok (.getfield 79, 3) := by decide +kernel
theorem dX7_addTemplate_21 : decode cX7_addTemplate 21 = .ok (.ifCond .le 5, 3) := by decide +kernel
theorem dX7_addTemplate_24 : decode cX7_addTemplate 24 = .ok (.iconst 0, 1) := by decide +kernel
theorem dX7_addTemplate_25 : decode cX7_addTemplate 25 = .ok (.ireturn, 1) := by decide +kernel
theorem dX7_addTemplate_26 : decode cX7_addTemplate 26 = .ok (.aload_n 0, 1) := by decide +kernel
theorem dX7_addTemplate_27 : decode cX7_addTemplate 27 = .ok (.dup, 1) := by decide +kernel
theorem dX7_addTemplate_28 : decode cX7_addTemplate 28 = .ok (.getfield 92, 3) := by decide +kernel
theorem dX7_addTemplate_31 : decode cX7_addTemplate 31 = .ok (.iconst 1, 1) := by decide +kernel
theorem dX7_addTemplate_32 : decode cX7_addTemplate 32 = .ok (.iadd, 1) := by decide +kernel
theorem dX7_addTemplate_33 : decode cX7_addTemplate 33 = .ok (.putfield 92, 3) := by decide +kernel
theorem dX7_addTemplate_36 : decode cX7_addTemplate 36 = .ok (.aload_n 0, 1) := by decide +kernel
theorem dX7_addTemplate_37 : decode cX7_addTemplate 37 = .ok (.getfield 92, 3) := by decide +kernel
theorem dX7_addTemplate_40 : decode cX7_addTemplate 40 = .ok (.iconst 1, 1) := by decide +kernel
theorem dX7_addTemplate_41 : decode cX7_addTemplate 41 = .ok (.isub, 1) := by decide +kernel
theorem dX7_addTemplate_42 : decode cX7_addTemplate 42 = .ok (.ireturn, 1) := by decide +kernel
theorem dX7_addPart_0 : decode cX7_addPart 0 = .ok (.iload_n 2, 1) := by decide +kernel
theorem dX7_addPart_1 : decode cX7_addPart 1 = .ok (.iconst 1, 1) := by decide +kernel
theorem dX7_addPart_2 : decode cX7_addPart 2 = .ok (.bipush 40, 2) := by decide +kernel
theorem dX7_addPart_4 : decode cX7_addPart 4 = .ok (.invokestatic 85, 3) := by decide +kernel
theorem dX7_addPart_7 : decode cX7_addPart 7 = .ok (.ifCond .eq 28, 3) := by decide +kernel
theorem dX7_addPart_10 : decode cX7_addPart 10 = .ok (.iload_n 3, 1) := by decide +kernel
theorem dX7_addPart_11 : decode cX7_addPart 11 = .ok (.iconst 0, 1) := by decide +kernel
theorem dX7_addPart_12 : decode cX7_addPart 12 = .ok (.bipush 7, 2) := by decide +kernel
theorem dX7_addPart_14 : decode cX7_addPart 14 = .ok (.invokestatic 85, 3) := by decide +kernel
theorem dX7_addPart_17 : decode cX7_addPart 17 = .ok (.ifCond .eq 18, 3) := by decide +kernel
theorem dX7_addPart_20 : decode cX7_addPart 20 = .ok (.iload 4, 2) := by decide +kernel
theorem dX7_addPart_22 : decode cX7_addPart 22 = .ok (.iconst 0, 1) := by decide +kernel
theorem dX7_addPart_23 : decode cX7_addPart 23 = .ok (.bipush 7, 2) := by decide +kernel
theorem dX7_addPart_25 : decode cX7_addPart 25 = .ok (.invokestatic 85, 3) := by decide +kernel
theorem dX7_addPart_28 : decode cX7_addPart 28 = .ok (.ifCond .eq 7, 3) := by decide +kernel
theorem dX7_addPart_31 : decode cX7_addPart 31 = .ok (.iconst 1, 1) := by decide +kernel
theorem dX7_addPart_32 : decode cX7_addPart 32 = .ok (.goto 4, 3) := by decide +kernel
theorem dX7_addPart_35 : decode cX7_addPart 35 = .ok (.iconst 0, 1) := by decide +kernel
theorem dX7_addPart_36 : decode cX7_addPart 36 = .ok (.istore 5, 2) := by decide +kernel
theorem dX7_addPart_38 : decode cX7_addPart 38 = .ok (.aload_n 0, 1) := by decide +kernel
theorem dX7_addPart_39 : decode cX7_addPart 39 = .ok (.aload_n 0, 1) := by decide +kernel
theorem dX7_addPart_40 : decode cX7_addPart 40 = .ok (.iload_n 1, 1) := by decide +kernel
theorem dX7_addPart_41 : decode cX7_addPart 41 = .ok (.invokevirtual 105, 3) := by decide +kernel
theorem dX7_addPart_44 : decode cX7_addPart 44 = .ok (.ifCond .ne 7, 3) := by decide +kernel
theorem dX7_addPart_47 : decode cX7_addPart 47 = .ok (.iconst 1, 1) := by decide +kernel
theorem dX7_addPart_48 : decode cX7_addPart 48 = .ok (.goto 37, 3) := by decide +kernel
theorem dX7_addPart_51 : decode cX7_addPart 51 = .ok (.iload 5, 2) := by decide +kernel
theorem dX7_addPart_53 : decode cX7_addPart 53 = .ok (.ifCond .ne 7, 3) := by decide +kernel
theorem dX7_addPart_56 : decode cX7_addPart 56 = .ok (.iconst 2, 1) := by decide +kernel
theorem dX7_addPart_57 : decode cX7_addPart 57 = .ok (.goto 28, 3) := by decide +kernel
theorem dX7_addPart_60 : decode cX7_addPart 60 = .ok (.aload_n 0, 1) := by decide +kernel
theorem dX7_addPart_61 : decode cX7_addPart 61 = .ok (.getfield 41, 3) := by decide +kernel
theorem dX7_addPart_64 : decode cX7_addPart 64 = .ok (.iload_n 1, 1) := by decide +kernel
theorem dX7_addPart_65 : decode cX7_addPart 65 = .ok (.iaload, 1) := by decide +kernel
theorem dX7_addPart_66 : decode cX7_addPart 66 = .ok (.bipush 8, 2) := by decide +kernel
theorem dX7_addPart_68 : decode cX7_addPart 68 = .ok (.if_icmp .eq 12, 3) := by decide +kernel
theorem dX7_addPart_71 : decode cX7_addPart 71 = .ok (.aload_n 0, 1) := by decide +kernel
theorem dX7_addPart_72 : decode cX7_addPart 72 = .ok (.getfield 44, 3) := by decide +kernel
theorem dX7_addPart_75 : decode cX7_addPart 75 = .ok (.iload_n 1, 1) := by decide +kernel
theorem dX7_addPart_76 : decode cX7_addPart 76 = .ok (.baload, 1) := by decide +kernel
theorem dX7_addPart_77 : decode cX7_addPart 77 = .ok (.ifCond .eq 7, 3) := by decide +kernel
theorem dX7_addPart_80 : decode cX7_addPart 80 = .ok (.iconst 3, 1) := by decide +kernel
theorem dX7_addPart_81 : decode cX7_addPart 81 = .ok (.goto 4, 3) := by decide +kernel
theorem dX7_addPart_84 : decode cX7_addPart 84 = .ok (.iconst 0, 1) := by decide +kernel
theorem dX7_addPart_85 : decode cX7_addPart 85 = .ok (.putfield 79, 3) := by decide +kernel
theorem dX7_addPart_88 : decode cX7_addPart 88 = .ok (.aload_n 0, 1) := by decide +kernel
theorem dX7_addPart_89 : decode cX7_addPart 89 = .ok (.getfield 79, 3) := by decide +kernel
theorem dX7_addPart_92 : decode cX7_addPart 92 = .ok (.ifCond .le 5, 3) := by decide +kernel
theorem dX7_addPart_95 : decode cX7_addPart 95 = .ok (.iconst 0, 1) := by decide +kernel
theorem dX7_addPart_96 : decode cX7_addPart 96 = .ok (.ireturn, 1) := by decide +kernel
theorem dX7_addPart_97 : decode cX7_addPart 97 = .ok (.aload_n 0, 1) := by decide +kernel
theorem dX7_addPart_98 : decode cX7_addPart 98 = .ok (.getfield 32, 3) := by decide +kernel
theorem dX7_addPart_101 : decode cX7_addPart 101 = .ok (.iload_n 1, 1) := by decide +kernel
theorem dX7_addPart_102 : decode cX7_addPart 102 = .ok (.aaload, 1) := by decide +kernel
theorem dX7_addPart_103 : decode cX7_addPart 103 = .ok (.aload_n 0, 1) := by decide +kernel
theorem dX7_addPart_104 : decode cX7_addPart 104 = .ok (.getfield 41, 3) := by decide +kernel
theorem dX7_addPart_107 : decode cX7_addPart 107 = .ok (.iload_n 1, 1) := by decide +kernel
theorem dX7_addPart_108 : decode cX7_addPart 108 = .ok (.iaload, 1) := by decide +kernel
theorem dX7_addPart_109 : decode cX7_addPart 109 = .ok (.iload_n 2, 1) := by decide +kernel
theorem dX7_addPart_110 : decode cX7_addPart 110 = .ok (.iastore, 1) := by decide +kernel
theorem dX7_addPart_111 : decode cX7_addPart 111 = .ok (.aload_n 0, 1) := by decide +kernel
theorem dX7_addPart_112 : decode cX7_addPart 112 = .ok (.getfield 35, 3) := by decide +kernel
theorem dX7_addPart_115 : decode cX7_addPart 115 = .ok (.iload_n 1, 1) := by decide +kernel
theorem dX7_addPart_116 : decode cX7_addPart 116 = .ok (.aaload, 1) := by decide +kernel
theorem dX7_addPart_117 : decode cX7_addPart 117 = .ok (.aload_n 0, 1) := by decide +kernel
theorem dX7_addPart_118 : decode cX7_addPart 118 = .ok (.getfield 41, 3) := by decide +kernel
theorem dX7_addPart_121 : decode cX7_addPart 121 = .ok (.iload_n 1, 1) := by decide +kernel
theorem dX7_addPart_122 : decode cX7_addPart 122 = .ok (.iaload, 1) := by decide +kernel
theorem dX7_addPart_123 : decode cX7_addPart 123 = .ok (.iload_n 3, 1) := by decide +kernel
theorem dX7_addPart_124 : decode cX7_addPart 124 = .ok (.iastore, 1) := by decide +kernel
theorem dX7_addPart_125 : decode cX7_addPart 125 = .ok (.aload_n 0, 1) := by decide +kernel
theorem dX7_addPart_126 : decode cX7_addPart 126 = .ok (.getfield 38, 3) := by decide +kernel
theorem dX7_addPart_129 : decode cX7_addPart 129 = .ok (.iload_n 1, 1) := by decide +kernel
theorem dX7_addPart_130 : decode cX7_addPart 130 = .ok (.aaload, 1) := by decide +kernel
theorem dX7_addPart_131 : decode cX7_addPart 131 = .ok (.aload_n 0, 1) := by decide +kernel
theorem dX7_addPart_132 : decode cX7_addPart 132 = .ok (.getfield 41, 3) := by decide +kernel
theorem dX7_addPart_135 : decode cX7_addPart 135 = .ok (.iload_n 1, 1) := by decide +kernel
theorem dX7_addPart_136 : decode cX7_addPart 136 = .ok (.iaload, 1) := by decide +kernel
theorem dX7_addPart_137 : decode cX7_addPart 137 = .ok (.iload 4, 2) := by decide +kernel
theorem dX7_addPart_139 : decode cX7_addPart 139 = .ok (.iastore, 1) := by decide +kernel
theorem dX7_addPart_140 : decode cX7_addPart 140 = .ok (.aload_n 0, 1) := by decide +kernel
theorem dX7_addPart_141 : decode cX7_addPart 141 = .ok (.getfield 41, 3) := by decide +kernel
theorem dX7_addPart_144 : decode cX7_addPart 144 = .ok (.iload_n 1, 1) := by decide +kernel
theorem dX7_addPart_145 : decode cX7_addPart 145 = .ok (.dup2, 1) := by decide +kernel
theorem dX7_addPart_146 : decode cX7_addPart 146 = .ok (.iaload, 1) := by decide +kernel
theorem dX7_addPart_147 : decode cX7_addPart 147 = .ok (.iconst 1, 1) := by decide +kernel
theorem dX7_addPart_148 : decode cX7_addPart 148 = .ok (.iadd, 1) := by decide +kernel
theorem dX7_addPart_149 : decode cX7_addPart 149 = .ok (.iastore, 1) := by decide +kernel
theorem dX7_addPart_150 : decode cX7_addPart 150 = .ok (.aload_n 0, 1) := by decide +kernel
theorem dX7_addPart_151 : decode cX7_addPart 151 = .ok (.getfield 41, 3) := by decide +kernel
theorem dX7_addPart_154 : decode cX7_addPart 154 = .ok (.iload_n 1, 1) := by decide +kernel
theorem dX7_addPart_155 : decode cX7_addPart 155 = .ok (.iaload, 1) := by decide +kernel
theorem dX7_addPart_156 : decode cX7_addPart 156 = .ok (.ireturn, 1) := by decide +kernel
theorem dX7_partsFor_0 : decode cX7_partsFor 0 = .ok (.iconst 0, 1) := by decide +kernel
theorem dX7_partsFor_1 : decode cX7_partsFor 1 = .ok (.istore_n 3, 1) := by decide +kernel
theorem dX7_partsFor_2 : decode cX7_partsFor 2 = .ok (.iconst 0, 1) := by decide +kernel
theorem dX7_partsFor_3 : decode cX7_partsFor 3 = .ok (.istore 4, 2) := by decide +kernel
theorem dX7_partsFor_5 : decode cX7_partsFor 5 = .ok (.iload 4, 2) := by decide +kernel
theorem dX7_partsFor_7 : decode cX7_partsFor 7 = .ok (.aload_n 0, 1) := by decide +kernel
theorem dX7_partsFor_8 : decode cX7_partsFor 8 = .ok (.getfield 41, 3) := by decide +kernel
theorem dX7_partsFor_11 : decode cX7_partsFor 11 = .ok (.iload_n 1, 1) := by decide +kernel
theorem dX7_partsFor_12 : decode cX7_partsFor 12 = .ok (.iaload, 1) := by decide +kernel
theorem dX7_partsFor_13 : decode cX7_partsFor 13 = .ok (.if_icmp .ge 69, 3) := by decide +kernel
theorem dX7_partsFor_16 : decode cX7_partsFor 16 = .ok (.iload_n 2, 1) := by decide +kernel
theorem dX7_partsFor_17 : decode cX7_partsFor 17 = .ok (.aload_n 0, 1) := by decide +kernel
theorem dX7_partsFor_18 : decode cX7_partsFor 18 = .ok (.getfield 35, 3) := by decide +kernel
theorem dX7_partsFor_21 : decode cX7_partsFor 21 = .ok (.iload_n 1, 1) := by decide +kernel
theorem dX7_partsFor_22 : decode cX7_partsFor 22 = .ok (.aaload, 1) := by decide +kernel
theorem dX7_partsFor_23 : decode cX7_partsFor 23 = .ok (.iload 4, 2) := by decide +kernel
theorem dX7_partsFor_25 : decode cX7_partsFor 25 = .ok (.iaload, 1) := by decide +kernel
theorem dX7_partsFor_26 : decode cX7_partsFor 26 = .ok (.iand, 1) := by decide +kernel
theorem dX7_partsFor_27 : decode cX7_partsFor 27 = .ok (.aload_n 0, 1) := by decide +kernel
theorem dX7_partsFor_28 : decode cX7_partsFor 28 = .ok (.getfield 35, 3) := by decide +kernel
theorem dX7_partsFor_31 : decode cX7_partsFor 31 = .ok (.iload_n 1, 1) := by decide +kernel
theorem dX7_partsFor_32 : decode cX7_partsFor 32 = .ok (.aaload, 1) := by decide +kernel
theorem dX7_partsFor_33 : decode cX7_partsFor 33 = .ok (.iload 4, 2) := by decide +kernel
theorem dX7_partsFor_35 : decode cX7_partsFor 35 = .ok (.iaload, 1) := by decide +kernel
theorem dX7_partsFor_36 : decode cX7_partsFor 36 = .ok (.if_icmp .ne 21, 3) := by decide +kernel
theorem dX7_partsFor_39 : decode cX7_partsFor 39 = .ok (.iload_n 2, 1) := by decide +kernel
theorem dX7_partsFor_40 : decode cX7_partsFor 40 = .ok (.aload_n 0, 1) := by decide +kernel
theorem dX7_partsFor_41 : decode cX7_partsFor 41 = .ok (.getfield 38, 3) := by decide +kernel
theorem dX7_partsFor_44 : decode cX7_partsFor 44 = .ok (.iload_n 1, 1) := by decide +kernel
theorem dX7_partsFor_45 : decode cX7_partsFor 45 = .ok (.aaload, 1) := by decide +kernel
theorem dX7_partsFor_46 : decode cX7_partsFor 46 = .ok (.iload 4, 2) := by decide +kernel
theorem dX7_partsFor_48 : decode cX7_partsFor 48 = .ok (.iaload, 1) := by decide +kernel
theorem dX7_partsFor_49 : decode cX7_partsFor 49 = .ok (.iand, 1) := by decide +kernel
theorem dX7_partsFor_50 : decode cX7_partsFor 50 = .ok (.ifCond .ne 7, 3) := by decide +kernel
theorem dX7_partsFor_53 : decode cX7_partsFor 53 = .ok (.iconst 1, 1) := by decide +kernel
theorem dX7_partsFor_54 : decode cX7_partsFor 54 = .ok (.goto 4, 3) := by decide +kernel
theorem dX7_partsFor_57 : decode cX7_partsFor 57 = .ok (.iconst 0, 1) := by decide +kernel
theorem dX7_partsFor_58 : decode cX7_partsFor 58 = .ok (.istore 5, 2) := by decide +kernel
theorem dX7_partsFor_60 : decode cX7_partsFor 60 = .ok (.iload_n 3, 1) := by decide +kernel
theorem dX7_partsFor_61 : decode cX7_partsFor 61 = .ok (.iload 5, 2) := by decide +kernel
theorem dX7_partsFor_63 : decode cX7_partsFor 63 = .ok (.ifCond .eq 10, 3) := by decide +kernel
theorem dX7_partsFor_66 : decode cX7_partsFor 66 = .ok (.iconst 1, 1) := by decide +kernel
theorem dX7_partsFor_67 : decode cX7_partsFor 67 = .ok (.iload 4, 2) := by decide +kernel
theorem dX7_partsFor_69 : decode cX7_partsFor 69 = .ok (.ishl, 1) := by decide +kernel
theorem dX7_partsFor_70 : decode cX7_partsFor 70 = .ok (.goto 4, 3) := by decide +kernel
theorem dX7_partsFor_73 : decode cX7_partsFor 73 = .ok (.iconst 0, 1) := by decide +kernel
theorem dX7_partsFor_74 : decode cX7_partsFor 74 = .ok (.ior, 1) := by decide +kernel
theorem dX7_partsFor_75 : decode cX7_partsFor 75 = .ok (.istore_n 3, 1) := by decide +kernel
theorem dX7_partsFor_76 : decode cX7_partsFor 76 = .ok (.iinc 4 1, 3) := by decide +kernel
theorem dX7_partsFor_79 : decode cX7_partsFor 79 = .ok (.goto (-74), 3) := by decide +kernel
theorem dX7_partsFor_82 : decode cX7_partsFor 82 = .ok (.iload_n 3, 1) := by decide +kernel
theorem dX7_partsFor_83 : decode cX7_partsFor 83 = .ok (.ireturn, 1) := by decide +kernel
theorem dX7_pagesOf_0 : decode cX7_pagesOf 0 = .ok (.aload_n 0, 1) := by decide +kernel
theorem dX7_pagesOf_1 : decode cX7_pagesOf 1 = .ok (.iload_n 1, 1) := by decide +kernel
theorem dX7_pagesOf_2 : decode cX7_pagesOf 2 = .ok (.iload_n 2, 1) := by decide +kernel
theorem dX7_pagesOf_3 : decode cX7_pagesOf 3 = .ok (.invokevirtual 108, 3) := by decide +kernel
theorem dX7_pagesOf_6 : decode cX7_pagesOf 6 = .ok (.istore_n 3, 1) := by decide +kernel
theorem dX7_pagesOf_7 : decode cX7_pagesOf 7 = .ok (.iconst 0, 1) := by decide +kernel
theorem dX7_pagesOf_8 : decode cX7_pagesOf 8 = .ok (.istore 4, 2) := by decide +kernel
theorem dX7_pagesOf_10 : decode cX7_pagesOf 10 = .ok (.iconst 0, 1) := by decide +kernel
theorem dX7_pagesOf_11 : decode cX7_pagesOf 11 = .ok (.istore 5, 2) := by decide +kernel
theorem dX7_pagesOf_13 : decode cX7_pagesOf 13 = .ok (.iconst 0, 1) := by decide +kernel
theorem dX7_pagesOf_14 : decode cX7_pagesOf 14 = .ok (.istore 6, 2) := by decide +kernel
theorem dX7_pagesOf_16 : decode cX7_pagesOf 16 = .ok (.iload 6, 2) := by decide +kernel
theorem dX7_pagesOf_18 : decode cX7_pagesOf 18 = .ok (.aload_n 0, 1) := by decide +kernel
theorem dX7_pagesOf_19 : decode cX7_pagesOf 19 = .ok (.getfield 41, 3) := by decide +kernel
theorem dX7_pagesOf_22 : decode cX7_pagesOf 22 = .ok (.iload_n 1, 1) := by decide +kernel
theorem dX7_pagesOf_23 : decode cX7_pagesOf 23 = .ok (.iaload, 1) := by decide +kernel
theorem dX7_pagesOf_24 : decode cX7_pagesOf 24 = .ok (.if_icmp .ge 79, 3) := by decide +kernel
theorem dX7_pagesOf_27 : decode cX7_pagesOf 27 = .ok (.iload_n 3, 1) := by decide +kernel
theorem dX7_pagesOf_28 : decode cX7_pagesOf 28 = .ok (.iload 6, 2) := by decide +kernel
theorem dX7_pagesOf_30 : decode cX7_pagesOf 30 = .ok (.ishr, 1) := by decide +kernel
theorem dX7_pagesOf_31 : decode cX7_pagesOf 31 = .ok (.iconst 1, 1) := by decide +kernel
theorem dX7_pagesOf_32 : decode cX7_pagesOf 32 = .ok (.iand, 1) := by decide +kernel
theorem dX7_pagesOf_33 : decode cX7_pagesOf 33 = .ok (.iconst 1, 1) := by decide +kernel
theorem dX7_pagesOf_34 : decode cX7_pagesOf 34 = .ok (.if_icmp .ne 63, 3) := by decide +kernel
theorem dX7_pagesOf_37 : decode cX7_pagesOf 37 = .ok (.aload_n 0, 1) := by decide +kernel
theorem dX7_pagesOf_38 : decode cX7_pagesOf 38 = .ok (.getfield 32, 3) := by decide +kernel
theorem dX7_pagesOf_41 : decode cX7_pagesOf 41 = .ok (.iload_n 1, 1) := by decide +kernel
theorem dX7_pagesOf_42 : decode cX7_pagesOf 42 = .ok (.aaload, 1) := by decide +kernel
theorem dX7_pagesOf_43 : decode cX7_pagesOf 43 = .ok (.iload 6, 2) := by decide +kernel
theorem dX7_pagesOf_45 : decode cX7_pagesOf 45 = .ok (.iaload, 1) := by decide +kernel
theorem dX7_pagesOf_46 : decode cX7_pagesOf 46 = .ok (.iload 5, 2) := by decide +kernel
theorem dX7_pagesOf_48 : decode cX7_pagesOf 48 = .ok (.if_icmp .gt 7, 3) := by decide +kernel
theorem dX7_pagesOf_51 : decode cX7_pagesOf 51 = .ok (.iconst 1, 1) := by decide +kernel
theorem dX7_pagesOf_52 : decode cX7_pagesOf 52 = .ok (.goto 4, 3) := by decide +kernel
theorem dX7_pagesOf_55 : decode cX7_pagesOf 55 = .ok (.iconst 0, 1) := by decide +kernel
theorem dX7_pagesOf_56 : decode cX7_pagesOf 56 = .ok (.istore 7, 2) := by decide +kernel
theorem dX7_pagesOf_58 : decode cX7_pagesOf 58 = .ok (.iload 4, 2) := by decide +kernel
theorem dX7_pagesOf_60 : decode cX7_pagesOf 60 = .ok (.iload 7, 2) := by decide +kernel
theorem dX7_pagesOf_62 : decode cX7_pagesOf 62 = .ok (.ifCond .eq 7, 3) := by decide +kernel
theorem dX7_pagesOf_65 : decode cX7_pagesOf 65 = .ok (.iconst 0, 1) := by decide +kernel
theorem dX7_pagesOf_66 : decode cX7_pagesOf 66 = .ok (.goto 4, 3) := by decide +kernel
theorem dX7_pagesOf_69 : decode cX7_pagesOf 69 = .ok (.iconst 1, 1) := by decide +kernel
theorem dX7_pagesOf_70 : decode cX7_pagesOf 70 = .ok (.iadd, 1) := by decide +kernel
theorem dX7_pagesOf_71 : decode cX7_pagesOf 71 = .ok (.istore 4, 2) := by decide +kernel
theorem dX7_pagesOf_73 : decode cX7_pagesOf 73 = .ok (.iload 7, 2) := by decide +kernel
theorem dX7_pagesOf_75 : decode cX7_pagesOf 75 = .ok (.ifCond .eq 8, 3) := by decide +kernel
theorem dX7_pagesOf_78 : decode cX7_pagesOf 78 = .ok (.iload 5, 2) := by decide +kernel
theorem dX7_pagesOf_80 : decode cX7_pagesOf 80 = .ok (.goto 5, 3) := by decide +kernel
theorem dX7_pagesOf_83 : decode cX7_pagesOf 83 = .ok (.bipush 40, 2) := by decide +kernel
theorem dX7_pagesOf_85 : decode cX7_pagesOf 85 = .ok (.aload_n 0, 1) := by decide +kernel
theorem dX7_pagesOf_86 : decode cX7_pagesOf 86 = .ok (.getfield 32, 3) := by decide +kernel
theorem dX7_pagesOf_89 : decode cX7_pagesOf 89 = .ok (.iload_n 1, 1) := by decide +kernel
theorem dX7_pagesOf_90 : decode cX7_pagesOf 90 = .ok (.aaload, 1) := by decide +kernel
theorem dX7_pagesOf_91 : decode cX7_pagesOf 91 = .ok (.iload 6, 2) := by decide +kernel
theorem dX7_pagesOf_93 : decode cX7_pagesOf 93 = .ok (.iaload, 1) := by decide +kernel
theorem dX7_pagesOf_94 : decode cX7_pagesOf 94 = .ok (.isub, 1) := by decide +kernel
theorem dX7_pagesOf_95 : decode cX7_pagesOf 95 = .ok (.istore 5, 2) := by decide +kernel
theorem dX7_pagesOf_97 : decode cX7_pagesOf 97 = .ok (.iinc 6 1, 3) := by decide +kernel
theorem dX7_pagesOf_100 : decode cX7_pagesOf 100 = .ok (.goto (-84), 3) := by decide +kernel
theorem dX7_pagesOf_103 : decode cX7_pagesOf 103 = .ok (.iload 4, 2) := by decide +kernel
theorem dX7_pagesOf_105 : decode cX7_pagesOf 105 = .ok (.ireturn, 1) := by decide +kernel
theorem dX7_pagesFor_0 : decode cX7_pagesFor 0 = .ok (.aload_n 0, 1) := by decide +kernel
theorem dX7_pagesFor_1 : decode cX7_pagesFor 1 = .ok (.aload_n 0, 1) := by decide +kernel
theorem dX7_pagesFor_2 : decode cX7_pagesFor 2 = .ok (.iload_n 1, 1) := by decide +kernel
theorem dX7_pagesFor_3 : decode cX7_pagesFor 3 = .ok (.invokevirtual 105, 3) := by decide +kernel
theorem dX7_pagesFor_6 : decode cX7_pagesFor 6 = .ok (.ifCond .ne 7, 3) := by decide +kernel
theorem dX7_pagesFor_9 : decode cX7_pagesFor 9 = .ok (.iconst 1, 1) := by decide +kernel
theorem dX7_pagesFor_10 : decode cX7_pagesFor 10 = .ok (.goto 18, 3) := by decide +kernel
theorem dX7_pagesFor_13 : decode cX7_pagesFor 13 = .ok (.iload_n 2, 1) := by decide +kernel
theorem dX7_pagesFor_14 : decode cX7_pagesFor 14 = .ok (.iconst 0, 1) := by decide +kernel
theorem dX7_pagesFor_15 : decode cX7_pagesFor 15 = .ok (.bipush 7, 2) := by decide +kernel
theorem dX7_pagesFor_17 : decode cX7_pagesFor 17 = .ok (.invokestatic 85, 3) := by decide +kernel
theorem dX7_pagesFor_20 : decode cX7_pagesFor 20 = .ok (.ifCond .ne 7, 3) := by decide +kernel
theorem dX7_pagesFor_23 : decode cX7_pagesFor 23 = .ok (.iconst 2, 1) := by decide +kernel
theorem dX7_pagesFor_24 : decode cX7_pagesFor 24 = .ok (.goto 4, 3) := by decide +kernel
theorem dX7_pagesFor_27 : decode cX7_pagesFor 27 = .ok (.iconst 0, 1) := by decide +kernel
theorem dX7_pagesFor_28 : decode cX7_pagesFor 28 = .ok (.putfield 79, 3) := by decide +kernel
theorem dX7_pagesFor_31 : decode cX7_pagesFor 31 = .ok (.aload_n 0, 1) := by decide +kernel
theorem dX7_pagesFor_32 : decode cX7_pagesFor 32 = .ok (.getfield 79, 3) := by decide +kernel
theorem dX7_pagesFor_35 : decode cX7_pagesFor 35 = .ok (.ifCond .le 7, 3) := by decide +kernel
theorem dX7_pagesFor_38 : decode cX7_pagesFor 38 = .ok (.iconst 0, 1) := by decide +kernel
theorem dX7_pagesFor_39 : decode cX7_pagesFor 39 = .ok (.goto 9, 3) := by decide +kernel
theorem dX7_pagesFor_42 : decode cX7_pagesFor 42 = .ok (.aload_n 0, 1) := by decide +kernel
theorem dX7_pagesFor_43 : decode cX7_pagesFor 43 = .ok (.iload_n 1, 1) := by decide +kernel
theorem dX7_pagesFor_44 : decode cX7_pagesFor 44 = .ok (.iload_n 2, 1) := by decide +kernel
theorem dX7_pagesFor_45 : decode cX7_pagesFor 45 = .ok (.invokevirtual 112, 3) := by decide +kernel
theorem dX7_pagesFor_48 : decode cX7_pagesFor 48 = .ok (.ireturn, 1) := by decide +kernel
theorem dX7_buyPaper_0 : decode cX7_buyPaper 0 = .ok (.aload_n 0, 1) := by decide +kernel
theorem dX7_buyPaper_1 : decode cX7_buyPaper 1 = .ok (.iload_n 1, 1) := by decide +kernel
theorem dX7_buyPaper_2 : decode cX7_buyPaper 2 = .ok (.iconst 1, 1) := by decide +kernel
theorem dX7_buyPaper_3 : decode cX7_buyPaper 3 = .ok (.sipush 500, 3) := by decide +kernel
theorem dX7_buyPaper_6 : decode cX7_buyPaper 6 = .ok (.invokestatic 85, 3) := by decide +kernel
theorem dX7_buyPaper_9 : decode cX7_buyPaper 9 = .ok (.ifCond .ne 7, 3) := by decide +kernel
theorem dX7_buyPaper_12 : decode cX7_buyPaper 12 = .ok (.iconst 1, 1) := by decide +kernel
theorem dX7_buyPaper_13 : decode cX7_buyPaper 13 = .ok (.goto 20, 3) := by decide +kernel
theorem dX7_buyPaper_16 : decode cX7_buyPaper 16 = .ok (.aload_n 0, 1) := by decide +kernel
theorem dX7_buyPaper_17 : decode cX7_buyPaper 17 = .ok (.getfield 115, 3) := by decide +kernel
theorem dX7_buyPaper_20 : decode cX7_buyPaper 20 = .ok (.iload_n 1, 1) := by decide +kernel
theorem dX7_buyPaper_21 : decode cX7_buyPaper 21 = .ok (.iadd, 1) := by decide +kernel
theorem dX7_buyPaper_22 : decode cX7_buyPaper 22 = .ok (.sipush 5000, 3) := by decide +kernel
theorem dX7_buyPaper_25 : decode cX7_buyPaper 25 = .ok (.if_icmp .le 7, 3) := by decide +kernel
theorem dX7_buyPaper_28 : decode cX7_buyPaper 28 = .ok (.iconst 2, 1) := by decide +kernel
theorem dX7_buyPaper_29 : decode cX7_buyPaper 29 = .ok (.goto 4, 3) := by decide +kernel
theorem dX7_buyPaper_32 : decode cX7_buyPaper 32 = .ok (.iconst 0, 1) := by decide +kernel
theorem dX7_buyPaper_33 : decode cX7_buyPaper 33 = .ok (.putfield 79, 3) := by decide +kernel
theorem dX7_buyPaper_36 : decode cX7_buyPaper 36 = .ok (.aload_n 0, 1) := by decide +kernel
theorem dX7_buyPaper_37 : decode cX7_buyPaper 37 = .ok (.getfield 79, 3) := by decide +kernel
theorem dX7_buyPaper_40 : decode cX7_buyPaper 40 = .ok (.ifCond .le 5, 3) := by decide +kernel
theorem dX7_buyPaper_43 : decode cX7_buyPaper 43 = .ok (.iconst 0, 1) := by decide +kernel
theorem dX7_buyPaper_44 : decode cX7_buyPaper 44 = .ok (.ireturn, 1) := by decide +kernel
theorem dX7_buyPaper_45 : decode cX7_buyPaper 45 = .ok (.aload_n 0, 1) := by decide +kernel
theorem dX7_buyPaper_46 : decode cX7_buyPaper 46 = .ok (.dup, 1) := by decide +kernel
theorem dX7_buyPaper_47 : decode cX7_buyPaper 47 = .ok (.getfield 115, 3) := by decide +kernel
theorem dX7_buyPaper_50 : decode cX7_buyPaper 50 = .ok (.iload_n 1, 1) := by decide +kernel
theorem dX7_buyPaper_51 : decode cX7_buyPaper 51 = .ok (.iadd, 1) := by decide +kernel
theorem dX7_buyPaper_52 : decode cX7_buyPaper 52 = .ok (.putfield 115, 3) := by decide +kernel
theorem dX7_buyPaper_55 : decode cX7_buyPaper 55 = .ok (.aload_n 0, 1) := by decide +kernel
theorem dX7_buyPaper_56 : decode cX7_buyPaper 56 = .ok (.getfield 115, 3) := by decide +kernel
theorem dX7_buyPaper_59 : decode cX7_buyPaper 59 = .ok (.ireturn, 1) := by decide +kernel
theorem dX7_buyEnvelopes_0 : decode cX7_buyEnvelopes 0 = .ok (.iload_n 1, 1) := by decide +kernel
theorem dX7_buyEnvelopes_1 : decode cX7_buyEnvelopes 1 = .ok (.ifCond .eq 7, 3) := by decide +kernel
theorem dX7_buyEnvelopes_4 : decode cX7_buyEnvelopes 4 = .ok (.iconst 1, 1) := by decide +kernel
theorem dX7_buyEnvelopes_5 : decode cX7_buyEnvelopes 5 = .ok (.goto 4, 3) := by decide +kernel
theorem dX7_buyEnvelopes_8 : decode cX7_buyEnvelopes 8 = .ok (.iconst 0, 1) := by decide +kernel
theorem dX7_buyEnvelopes_9 : decode cX7_buyEnvelopes 9 = .ok (.istore_n 3, 1) := by decide +kernel
theorem dX7_buyEnvelopes_10 : decode cX7_buyEnvelopes 10 = .ok (.aload_n 0, 1) := by decide +kernel
theorem dX7_buyEnvelopes_11 : decode cX7_buyEnvelopes 11 = .ok (.iload_n 2, 1) := by decide +kernel
theorem dX7_buyEnvelopes_12 : decode cX7_buyEnvelopes 12 = .ok (.iconst 1, 1) := by decide +kernel
theorem dX7_buyEnvelopes_13 : decode cX7_buyEnvelopes 13 = .ok (.sipush 500, 3) := by decide +kernel
theorem dX7_buyEnvelopes_16 : decode cX7_buyEnvelopes 16 = .ok (.invokestatic 85, 3) := by decide +kernel
theorem dX7_buyEnvelopes_19 : decode cX7_buyEnvelopes 19 = .ok (.ifCond .ne 7, 3) := by decide +kernel
theorem dX7_buyEnvelopes_22 : decode cX7_buyEnvelopes 22 = .ok (.iconst 1, 1) := by decide +kernel
theorem dX7_buyEnvelopes_23 : decode cX7_buyEnvelopes 23 = .ok (.goto 22, 3) := by decide +kernel
theorem dX7_buyEnvelopes_26 : decode cX7_buyEnvelopes 26 = .ok (.aload_n 0, 1) := by decide +kernel
theorem dX7_buyEnvelopes_27 : decode cX7_buyEnvelopes 27 = .ok (.getfield 47, 3) := by decide +kernel
theorem dX7_buyEnvelopes_30 : decode cX7_buyEnvelopes 30 = .ok (.iload_n 3, 1) := by decide +kernel
theorem dX7_buyEnvelopes_31 : decode cX7_buyEnvelopes 31 = .ok (.iaload, 1) := by decide +kernel
theorem dX7_buyEnvelopes_32 : decode cX7_buyEnvelopes 32 = .ok (.iload_n 2, 1) := by decide +kernel
theorem dX7_buyEnvelopes_33 : decode cX7_buyEnvelopes 33 = .ok (.iadd, 1) := by decide +kernel
theorem dX7_buyEnvelopes_34 : decode cX7_buyEnvelopes 34 = .ok (.sipush 5000, 3) := by decide +kernel
theorem dX7_buyEnvelopes_37 : decode cX7_buyEnvelopes 37 = .ok (.if_icmp .le 7, 3) := by decide +kernel
theorem dX7_buyEnvelopes_40 : decode cX7_buyEnvelopes 40 = .ok (.iconst 2, 1) := by decide +kernel
theorem dX7_buyEnvelopes_41 : decode cX7_buyEnvelopes 41 = .ok (.goto 4, 3) := by decide +kernel
theorem dX7_buyEnvelopes_44 : decode cX7_buyEnvelopes 44 = .ok (.iconst 0, 1) := by decide +kernel
theorem dX7_buyEnvelopes_45 : decode cX7_buyEnvelopes 45 = .ok (.putfield 79, 3) := by decide +kernel
theorem dX7_buyEnvelopes_48 : decode cX7_buyEnvelopes 48 = .ok (.aload_n 0, 1) := by decide +kernel
theorem dX7_buyEnvelopes_49 : decode cX7_buyEnvelopes 49 = .ok (.getfield 79, 3) := by decide +kernel
theorem dX7_buyEnvelopes_52 : decode cX7_buyEnvelopes 52 = .ok (.ifCond .le 5, 3) := by decide +kernel
theorem dX7_buyEnvelopes_55 : decode cX7_buyEnvelopes 55 = .ok (.iconst 0, 1) := by decide +kernel
theorem dX7_buyEnvelopes_56 : decode cX7_buyEnvelopes 56 = .ok (.ireturn, 1) := by decide +kernel
theorem dX7_buyEnvelopes_57 : decode cX7_buyEnvelopes 57 = .ok (.aload_n 0, 1) := by decide +kernel
theorem dX7_buyEnvelopes_58 : decode cX7_buyEnvelopes 58 = .ok (.getfield 47, 3) := by decide +kernel
theorem dX7_buyEnvelopes_61 : decode cX7_buyEnvelopes 61 = .ok (.iload_n 3, 1) := by decide +kernel
theorem dX7_buyEnvelopes_62 : decode cX7_buyEnvelopes 62 = .ok (.dup2, 1) := by decide +kernel
theorem dX7_buyEnvelopes_63 : decode cX7_buyEnvelopes 63 = .ok (.iaload, 1) := by decide +kernel
theorem dX7_buyEnvelopes_64 : decode cX7_buyEnvelopes 64 = .ok (.iload_n 2, 1) := by decide +kernel
theorem dX7_buyEnvelopes_65 : decode cX7_buyEnvelopes 65 = .ok (.iadd, 1) := by decide +kernel
theorem dX7_buyEnvelopes_66 : decode cX7_buyEnvelopes 66 = .ok (.iastore, 1) := by decide +kernel
theorem dX7_buyEnvelopes_67 : decode cX7_buyEnvelopes 67 = .ok (.aload_n 0, 1) := by decide +kernel
theorem dX7_buyEnvelopes_68 : decode cX7_buyEnvelopes 68 = .ok (.getfield 47, 3) := by decide +kernel
theorem dX7_buyEnvelopes_71 : decode cX7_buyEnvelopes 71 = .ok (.iload_n 3, 1) := by decide +kernel
theorem dX7_buyEnvelopes_72 : decode cX7_buyEnvelopes 72 = .ok (.iaload, 1) := by decide +kernel
theorem dX7_buyEnvelopes_73 : decode cX7_buyEnvelopes 73 = .ok (.ireturn, 1) := by decide +kernel
theorem dX7_paper_0 : decode cX7_paper 0 = .ok (.aload_n 0, 1) := by decide +kernel
theorem dX7_paper_1 : decode cX7_paper 1 = .ok (.iconst 0, 1) := by decide +kernel
theorem dX7_paper_2 : decode cX7_paper 2 = .ok (.putfield 79, 3) := by decide +kernel
theorem dX7_paper_5 : decode cX7_paper 5 = .ok (.aload_n 0, 1) := by decide +kernel
theorem dX7_paper_6 : decode cX7_paper 6 = .ok (.getfield 115, 3) := by decide +kernel
theorem dX7_paper_9 : decode cX7_paper 9 = .ok (.ireturn, 1) := by decide +kernel
theorem dX7_envelopes_0 : decode cX7_envelopes 0 = .ok (.aload_n 0, 1) := by decide +kernel
theorem dX7_envelopes_1 : decode cX7_envelopes 1 = .ok (.iconst 0, 1) := by decide +kernel
theorem dX7_envelopes_2 : decode cX7_envelopes 2 = .ok (.putfield 79, 3) := by decide +kernel
theorem dX7_envelopes_5 : decode cX7_envelopes 5 = .ok (.aload_n 0, 1) := by decide +kernel
theorem dX7_envelopes_6 : decode cX7_envelopes 6 = .ok (.getfield 47, 3) := by decide +kernel
theorem dX7_envelopes_9 : decode cX7_envelopes 9 = .ok (.iload_n 1, 1) := by decide +kernel
theorem dX7_envelopes_10 : decode cX7_envelopes 10 = .ok (.ifCond .eq 7, 3) := by decide +kernel
theorem dX7_envelopes_13 : decode cX7_envelopes 13 = .ok (.iconst 1, 1) := by decide +kernel
theorem dX7_envelopes_14 : decode cX7_envelopes 14 = .ok (.goto 4, 3) := by decide +kernel
theorem dX7_envelopes_17 : decode cX7_envelopes 17 = .ok (.iconst 0, 1) := by decide +kernel
theorem dX7_envelopes_18 : decode cX7_envelopes 18 = .ok (.iaload, 1) := by decide +kernel
theorem dX7_envelopes_19 : decode cX7_envelopes 19 = .ok (.ireturn, 1) := by decide +kernel
theorem dX7_ends_0 : decode cX7_ends 0 = .ok (.iconst 0, 1) := by decide +kernel
theorem dX7_ends_1 : decode cX7_ends 1 = .ok (.istore_n 2, 1) := by decide +kernel
theorem dX7_ends_2 : decode cX7_ends 2 = .ok (.aload_n 0, 1) := by decide +kernel
theorem dX7_ends_3 : decode cX7_ends 3 = .ok (.getfield 95, 3) := by decide +kernel
theorem dX7_ends_6 : decode cX7_ends 6 = .ok (.iconst 1, 1) := by decide +kernel
theorem dX7_ends_7 : decode cX7_ends 7 = .ok (.isub, 1) := by decide +kernel
theorem dX7_ends_8 : decode cX7_ends 8 = .ok (.istore_n 3, 1) := by decide +kernel
theorem dX7_ends_9 : decode cX7_ends 9 = .ok (.iconst 0, 1) := by decide +kernel
theorem dX7_ends_10 : decode cX7_ends 10 = .ok (.istore 4, 2) := by decide +kernel
theorem dX7_ends_12 : decode cX7_ends 12 = .ok (.iload_n 3, 1) := by decide +kernel
theorem dX7_ends_13 : decode cX7_ends 13 = .ok (.ifCond .lt 67, 3) := by decide +kernel
theorem dX7_ends_16 : decode cX7_ends 16 = .ok (.iload 4, 2) := by decide +kernel
theorem dX7_ends_18 : decode cX7_ends 18 = .ok (.aload_n 0, 1) := by decide +kernel
theorem dX7_ends_19 : decode cX7_ends 19 = .ok (.getfield 54, 3) := by decide +kernel
theorem dX7_ends_22 : decode cX7_ends 22 = .ok (.iload_n 3, 1) := by decide +kernel
theorem dX7_ends_23 : decode cX7_ends 23 = .ok (.iaload, 1) := by decide +kernel
theorem dX7_ends_24 : decode cX7_ends 24 = .ok (.if_icmp .ge 56, 3) := by decide +kernel
theorem dX7_ends_27 : decode cX7_ends 27 = .ok (.iload_n 2, 1) := by decide +kernel
theorem dX7_ends_28 : decode cX7_ends 28 = .ok (.ifCond .ne 40, 3) := by decide +kernel
theorem dX7_ends_31 : decode cX7_ends 31 = .ok (.aload_n 0, 1) := by decide +kernel
theorem dX7_ends_32 : decode cX7_ends 32 = .ok (.getfield 59, 3) := by decide +kernel
theorem dX7_ends_35 : decode cX7_ends 35 = .ok (.iload_n 3, 1) := by decide +kernel
theorem dX7_ends_36 : decode cX7_ends 36 = .ok (.aaload, 1) := by decide +kernel
theorem dX7_ends_37 : decode cX7_ends 37 = .ok (.iload 4, 2) := by decide +kernel
theorem dX7_ends_39 : decode cX7_ends 39 = .ok (.caload, 1) := by decide +kernel
theorem dX7_ends_40 : decode cX7_ends 40 = .ok (.bipush 108, 2) := by decide +kernel
theorem dX7_ends_42 : decode cX7_ends 42 = .ok (.if_icmp .ne 30, 3) := by decide +kernel
theorem dX7_ends_45 : decode cX7_ends 45 = .ok (.aload_n 0, 1) := by decide +kernel
theorem dX7_ends_46 : decode cX7_ends 46 = .ok (.getfield 76, 3) := by decide +kernel
theorem dX7_ends_49 : decode cX7_ends 49 = .ok (.iload_n 3, 1) := by decide +kernel
theorem dX7_ends_50 : decode cX7_ends 50 = .ok (.aaload, 1) := by decide +kernel
theorem dX7_ends_51 : decode cX7_ends 51 = .ok (.iload 4, 2) := by decide +kernel
theorem dX7_ends_53 : decode cX7_ends 53 = .ok (.baload, 1) := by decide +kernel
theorem dX7_ends_54 : decode cX7_ends 54 = .ok (.ifCond .ne 18, 3) := by decide +kernel
theorem dX7_ends_57 : decode cX7_ends 57 = .ok (.aload_n 0, 1) := by decide +kernel
theorem dX7_ends_58 : decode cX7_ends 58 = .ok (.getfield 20, 3) := by decide +kernel
theorem dX7_ends_61 : decode cX7_ends 61 = .ok (.iload 4, 2) := by decide +kernel
theorem dX7_ends_63 : decode cX7_ends 63 = .ok (.iaload, 1) := by decide +kernel
theorem dX7_ends_64 : decode cX7_ends 64 = .ok (.iload_n 1, 1) := by decide +kernel
theorem dX7_ends_65 : decode cX7_ends 65 = .ok (.if_icmp .ne 7, 3) := by decide +kernel
theorem dX7_ends_68 : decode cX7_ends 68 = .ok (.iconst 1, 1) := by decide +kernel
theorem dX7_ends_69 : decode cX7_ends 69 = .ok (.goto 4, 3) := by decide +kernel
theorem dX7_ends_72 : decode cX7_ends 72 = .ok (.iconst 0, 1) := by decide +kernel
theorem dX7_ends_73 : decode cX7_ends 73 = .ok (.istore_n 2, 1) := by decide +kernel
theorem dX7_ends_74 : decode cX7_ends 74 = .ok (.iinc 4 1, 3) := by decide +kernel
theorem dX7_ends_77 : decode cX7_ends 77 = .ok (.goto (-65), 3) := by decide +kernel
theorem dX7_ends_80 : decode cX7_ends 80 = .ok (.iload_n 2, 1) := by decide +kernel
theorem dX7_ends_81 : decode cX7_ends 81 = .ok (.ireturn, 1) := by decide +kernel
theorem dX7_outcomesOf_0 : decode cX7_outcomesOf 0 = .ok (.bipush 24, 2) := by decide +kernel
theorem dX7_outcomesOf_2 : decode cX7_outcomesOf 2 = .ok (.newarray .char, 2) := by decide +kernel
theorem dX7_outcomesOf_4 : decode cX7_outcomesOf 4 = .ok (.astore 4, 2) := by decide +kernel
theorem dX7_outcomesOf_6 : decode cX7_outcomesOf 6 = .ok (.iconst 0, 1) := by decide +kernel
theorem dX7_outcomesOf_7 : decode cX7_outcomesOf 7 = .ok (.istore 5, 2) := by decide +kernel
theorem dX7_outcomesOf_9 : decode cX7_outcomesOf 9 = .ok (.iload 5, 2) := by decide +kernel
theorem dX7_outcomesOf_11 : decode cX7_outcomesOf 11 = .ok (.aload_n 0, 1) := by decide +kernel
theorem dX7_outcomesOf_12 : decode cX7_outcomesOf 12 = .ok (.getfield 89, 3) := by decide +kernel
theorem dX7_outcomesOf_15 : decode cX7_outcomesOf 15 = .ok (.if_icmp .ge 255, 3) := by decide +kernel
theorem dX7_outcomesOf_18 : decode cX7_outcomesOf 18 = .ok (.aload_n 0, 1) := by decide +kernel
theorem dX7_outcomesOf_19 : decode cX7_outcomesOf 19 = .ok (.iload_n 1, 1) := by decide +kernel
theorem dX7_outcomesOf_20 : decode cX7_outcomesOf 20 = .ok (.aload_n 0, 1) := by decide +kernel
theorem dX7_outcomesOf_21 : decode cX7_outcomesOf 21 = .ok (.getfield 23, 3) := by decide +kernel
theorem dX7_outcomesOf_24 : decode cX7_outcomesOf 24 = .ok (.iload 5, 2) := by decide +kernel
theorem dX7_outcomesOf_26 : decode cX7_outcomesOf 26 = .ok (.iaload, 1) := by decide +kernel
theorem dX7_outcomesOf_27 : decode cX7_outcomesOf 27 = .ok (.invokevirtual 112, 3) := by decide +kernel
theorem dX7_outcomesOf_30 : decode cX7_outcomesOf 30 = .ok (.istore 6, 2) := by decide +kernel
theorem dX7_outcomesOf_32 : decode cX7_outcomesOf 32 = .ok (.iconst 0, 1) := by decide +kernel
theorem dX7_outcomesOf_33 : decode cX7_outcomesOf 33 = .ok (.istore 7, 2) := by decide +kernel
theorem dX7_outcomesOf_35 : decode cX7_outcomesOf 35 = .ok (.iconst 0, 1) := by decide +kernel
theorem dX7_outcomesOf_36 : decode cX7_outcomesOf 36 = .ok (.istore 8, 2) := by decide +kernel
theorem dX7_outcomesOf_38 : decode cX7_outcomesOf 38 = .ok (.iload 8, 2) := by decide +kernel
theorem dX7_outcomesOf_40 : decode cX7_outcomesOf 40 = .ok (.iload 5, 2) := by decide +kernel
theorem dX7_outcomesOf_42 : decode cX7_outcomesOf 42 = .ok (.if_icmp .ge 65, 3) := by decide +kernel
theorem dX7_outcomesOf_45 : decode cX7_outcomesOf 45 = .ok (.iload 7, 2) := by decide +kernel
theorem dX7_outcomesOf_47 : decode cX7_outcomesOf 47 = .ok (.ifCond .ne 47, 3) := by decide +kernel
theorem dX7_outcomesOf_50 : decode cX7_outcomesOf 50 = .ok (.aload_n 0, 1) := by decide +kernel
theorem dX7_outcomesOf_51 : decode cX7_outcomesOf 51 = .ok (.getfield 20, 3) := by decide +kernel
theorem dX7_outcomesOf_54 : decode cX7_outcomesOf 54 = .ok (.iload 8, 2) := by decide +kernel
theorem dX7_outcomesOf_56 : decode cX7_outcomesOf 56 = .ok (.iaload, 1) := by decide +kernel
theorem dX7_outcomesOf_57 : decode cX7_outcomesOf 57 = .ok (.aload_n 0, 1) := by decide +kernel
theorem dX7_outcomesOf_58 : decode cX7_outcomesOf 58 = .ok (.getfield 20, 3) := by decide +kernel
theorem dX7_outcomesOf_61 : decode cX7_outcomesOf 61 = .ok (.iload 5, 2) := by decide +kernel
theorem dX7_outcomesOf_63 : decode cX7_outcomesOf 63 = .ok (.iaload, 1) := by decide +kernel
theorem dX7_outcomesOf_64 : decode cX7_outcomesOf 64 = .ok (.if_icmp .ne 34, 3) := by decide +kernel
theorem dX7_outcomesOf_67 : decode cX7_outcomesOf 67 = .ok (.aload_n 0, 1) := by decide +kernel
theorem dX7_outcomesOf_68 : decode cX7_outcomesOf 68 = .ok (.getfield 26, 3) := by decide +kernel
theorem dX7_outcomesOf_71 : decode cX7_outcomesOf 71 = .ok (.iload 8, 2) := by decide +kernel
theorem dX7_outcomesOf_73 : decode cX7_outcomesOf 73 = .ok (.caload, 1) := by decide +kernel
theorem dX7_outcomesOf_74 : decode cX7_outcomesOf 74 = .ok (.bipush 45, 2) := by decide +kernel
theorem dX7_outcomesOf_76 : decode cX7_outcomesOf 76 = .ok (.if_icmp .ne 22, 3) := by decide +kernel
theorem dX7_outcomesOf_79 : decode cX7_outcomesOf 79 = .ok (.aload_n 0, 1) := by decide +kernel
theorem dX7_outcomesOf_80 : decode cX7_outcomesOf 80 = .ok (.iload_n 1, 1) := by decide +kernel
theorem dX7_outcomesOf_81 : decode cX7_outcomesOf 81 = .ok (.aload_n 0, 1) := by decide +kernel
theorem dX7_outcomesOf_82 : decode cX7_outcomesOf 82 = .ok (.getfield 23, 3) := by decide +kernel
theorem dX7_outcomesOf_85 : decode cX7_outcomesOf 85 = .ok (.iload 8, 2) := by decide +kernel
theorem dX7_outcomesOf_87 : decode cX7_outcomesOf 87 = .ok (.iaload, 1) := by decide +kernel
theorem dX7_outcomesOf_88 : decode cX7_outcomesOf 88 = .ok (.invokevirtual 112, 3) := by decide +kernel
theorem dX7_outcomesOf_91 : decode cX7_outcomesOf 91 = .ok (.ifCond .le 7, 3) := by decide +kernel
theorem dX7_outcomesOf_94 : decode cX7_outcomesOf 94 = .ok (.iconst 1, 1) := by decide +kernel
theorem dX7_outcomesOf_95 : decode cX7_outcomesOf 95 = .ok (.goto 4, 3) := by decide +kernel
theorem dX7_outcomesOf_98 : decode cX7_outcomesOf 98 = .ok (.iconst 0, 1) := by decide +kernel
theorem dX7_outcomesOf_99 : decode cX7_outcomesOf 99 = .ok (.istore 7, 2) := by decide +kernel
theorem dX7_outcomesOf_101 : decode cX7_outcomesOf 101 = .ok (.iinc 8 1, 3) := by decide +kernel
theorem dX7_outcomesOf_104 : decode cX7_outcomesOf 104 = .ok (.goto (-66), 3) := by decide +kernel
theorem dX7_outcomesOf_107 : decode cX7_outcomesOf 107 = .ok (.iload 6, 2) := by decide +kernel
theorem dX7_outcomesOf_109 : decode cX7_outcomesOf 109 = .ok (.iconst 3, 1) := by decide +kernel
theorem dX7_outcomesOf_110 : decode cX7_outcomesOf 110 = .ok (.if_icmp .le 7, 3) := by decide +kernel
theorem dX7_outcomesOf_113 : decode cX7_outcomesOf 113 = .ok (.iconst 2, 1) := by decide +kernel
theorem dX7_outcomesOf_114 : decode cX7_outcomesOf 114 = .ok (.goto 4, 3) := by decide +kernel
theorem dX7_outcomesOf_117 : decode cX7_outcomesOf 117 = .ok (.iconst 1, 1) := by decide +kernel
theorem dX7_outcomesOf_118 : decode cX7_outcomesOf 118 = .ok (.istore 8, 2) := by decide +kernel
theorem dX7_outcomesOf_120 : decode cX7_outcomesOf 120 = .ok (.aload_n 0, 1) := by decide +kernel
theorem dX7_outcomesOf_121 : decode cX7_outcomesOf 121 = .ok (.getfield 26, 3) := by decide +kernel
theorem dX7_outcomesOf_124 : decode cX7_outcomesOf 124 = .ok (.iload 5, 2) := by decide +kernel
theorem dX7_outcomesOf_126 : decode cX7_outcomesOf 126 = .ok (.caload, 1) := by decide +kernel
theorem dX7_outcomesOf_127 : decode cX7_outcomesOf 127 = .ok (.bipush 45, 2) := by decide +kernel
theorem dX7_outcomesOf_129 : decode cX7_outcomesOf 129 = .ok (.if_icmp .eq 13, 3) := by decide +kernel
theorem dX7_outcomesOf_132 : decode cX7_outcomesOf 132 = .ok (.aload 4, 2) := by decide +kernel
theorem dX7_outcomesOf_134 : decode cX7_outcomesOf 134 = .ok (.iload 5, 2) := by decide +kernel
theorem dX7_outcomesOf_136 : decode cX7_outcomesOf 136 = .ok (.bipush 115, 2) := by decide +kernel
theorem dX7_outcomesOf_138 : decode cX7_outcomesOf 138 = .ok (.castore, 1) := by decide +kernel
theorem dX7_outcomesOf_139 : decode cX7_outcomesOf 139 = .ok (.goto 125, 3) := by decide +kernel
theorem dX7_outcomesOf_142 : decode cX7_outcomesOf 142 = .ok (.aload_n 0, 1) := by decide +kernel
theorem dX7_outcomesOf_143 : decode cX7_outcomesOf 143 = .ok (.getfield 13, 3) := by decide +kernel
theorem dX7_outcomesOf_146 : decode cX7_outcomesOf 146 = .ok (.aload_n 0, 1) := by decide +kernel
theorem dX7_outcomesOf_147 : decode cX7_outcomesOf 147 = .ok (.getfield 20, 3) := by decide +kernel
theorem dX7_outcomesOf_150 : decode cX7_outcomesOf 150 = .ok (.iload 5, 2) := by decide +kernel
theorem dX7_outcomesOf_152 : decode cX7_outcomesOf 152 = .ok (.iaload, 1) := by decide +kernel
theorem dX7_outcomesOf_153 : decode cX7_outcomesOf 153 = .ok (.iaload, 1) := by decide +kernel
theorem dX7_outcomesOf_154 : decode cX7_outcomesOf 154 = .ok (.iconst 2, 1) := by decide +kernel
theorem dX7_outcomesOf_155 : decode cX7_outcomesOf 155 = .ok (.if_icmp .lt 27, 3) := by decide +kernel
theorem dX7_outcomesOf_158 : decode cX7_outcomesOf 158 = .ok (.aload_n 0, 1) := by decide +kernel
theorem dX7_outcomesOf_159 : decode cX7_outcomesOf 159 = .ok (.aload_n 0, 1) := by decide +kernel
theorem dX7_outcomesOf_160 : decode cX7_outcomesOf 160 = .ok (.getfield 20, 3) := by decide +kernel
theorem dX7_outcomesOf_163 : decode cX7_outcomesOf 163 = .ok (.iload 5, 2) := by decide +kernel
theorem dX7_outcomesOf_165 : decode cX7_outcomesOf 165 = .ok (.iaload, 1) := by decide +kernel
theorem dX7_outcomesOf_166 : decode cX7_outcomesOf 166 = .ok (.invokevirtual 118, 3) := by decide +kernel
theorem dX7_outcomesOf_169 : decode cX7_outcomesOf 169 = .ok (.ifCond .ne 13, 3) := by decide +kernel
theorem dX7_outcomesOf_172 : decode cX7_outcomesOf 172 = .ok (.aload 4, 2) := by decide +kernel
theorem dX7_outcomesOf_174 : decode cX7_outcomesOf 174 = .ok (.iload 5, 2) := by decide +kernel
theorem dX7_outcomesOf_176 : decode cX7_outcomesOf 176 = .ok (.bipush 98, 2) := by decide +kernel
theorem dX7_outcomesOf_178 : decode cX7_outcomesOf 178 = .ok (.castore, 1) := by decide +kernel
theorem dX7_outcomesOf_179 : decode cX7_outcomesOf 179 = .ok (.goto 85, 3) := by decide +kernel
theorem dX7_outcomesOf_182 : decode cX7_outcomesOf 182 = .ok (.iload 6, 2) := by decide +kernel
theorem dX7_outcomesOf_184 : decode cX7_outcomesOf 184 = .ok (.ifCond .ne 13, 3) := by decide +kernel
theorem dX7_outcomesOf_187 : decode cX7_outcomesOf 187 = .ok (.aload 4, 2) := by decide +kernel
theorem dX7_outcomesOf_189 : decode cX7_outcomesOf 189 = .ok (.iload 5, 2) := by decide +kernel
theorem dX7_outcomesOf_191 : decode cX7_outcomesOf 191 = .ok (.bipush 101, 2) := by decide +kernel
theorem dX7_outcomesOf_193 : decode cX7_outcomesOf 193 = .ok (.castore, 1) := by decide +kernel
theorem dX7_outcomesOf_194 : decode cX7_outcomesOf 194 = .ok (.goto 70, 3) := by decide +kernel
theorem dX7_outcomesOf_197 : decode cX7_outcomesOf 197 = .ok (.iload_n 2, 1) := by decide +kernel
theorem dX7_outcomesOf_198 : decode cX7_outcomesOf 198 = .ok (.ifCond .eq 18, 3) := by decide +kernel
theorem dX7_outcomesOf_201 : decode cX7_outcomesOf 201 = .ok (.iload 7, 2) := by decide +kernel
theorem dX7_outcomesOf_203 : decode cX7_outcomesOf 203 = .ok (.ifCond .eq 13, 3) := by decide +kernel
theorem dX7_outcomesOf_206 : decode cX7_outcomesOf 206 = .ok (.aload 4, 2) := by decide +kernel
theorem dX7_outcomesOf_208 : decode cX7_outcomesOf 208 = .ok (.iload 5, 2) := by decide +kernel
theorem dX7_outcomesOf_210 : decode cX7_outcomesOf 210 = .ok (.bipush 104, 2) := by decide +kernel
theorem dX7_outcomesOf_212 : decode cX7_outcomesOf 212 = .ok (.castore, 1) := by decide +kernel
theorem dX7_outcomesOf_213 : decode cX7_outcomesOf 213 = .ok (.goto 51, 3) := by decide +kernel
theorem dX7_outcomesOf_216 : decode cX7_outcomesOf 216 = .ok (.aload_n 3, 1) := by decide +kernel
theorem dX7_outcomesOf_217 : decode cX7_outcomesOf 217 = .ok (.iconst 0, 1) := by decide +kernel
theorem dX7_outcomesOf_218 : decode cX7_outcomesOf 218 = .ok (.iaload, 1) := by decide +kernel
theorem dX7_outcomesOf_219 : decode cX7_outcomesOf 219 = .ok (.iload 6, 2) := by decide +kernel
theorem dX7_outcomesOf_221 : decode cX7_outcomesOf 221 = .ok (.if_icmp .lt 10, 3) := by decide +kernel
theorem dX7_outcomesOf_224 : decode cX7_outcomesOf 224 = .ok (.aload_n 3, 1) := by decide +kernel
theorem dX7_outcomesOf_225 : decode cX7_outcomesOf 225 = .ok (.iload 8, 2) := by decide +kernel
theorem dX7_outcomesOf_227 : decode cX7_outcomesOf 227 = .ok (.iaload, 1) := by decide +kernel
theorem dX7_outcomesOf_228 : decode cX7_outcomesOf 228 = .ok (.ifCond .ne 13, 3) := by decide +kernel
theorem dX7_outcomesOf_231 : decode cX7_outcomesOf 231 = .ok (.aload 4, 2) := by decide +kernel
theorem dX7_outcomesOf_233 : decode cX7_outcomesOf 233 = .ok (.iload 5, 2) := by decide +kernel
theorem dX7_outcomesOf_235 : decode cX7_outcomesOf 235 = .ok (.bipush 112, 2) := by decide +kernel
theorem dX7_outcomesOf_237 : decode cX7_outcomesOf 237 = .ok (.castore, 1) := by decide +kernel
theorem dX7_outcomesOf_238 : decode cX7_outcomesOf 238 = .ok (.goto 26, 3) := by decide +kernel
theorem dX7_outcomesOf_241 : decode cX7_outcomesOf 241 = .ok (.aload 4, 2) := by decide +kernel
theorem dX7_outcomesOf_243 : decode cX7_outcomesOf 243 = .ok (.iload 5, 2) := by decide +kernel
theorem dX7_outcomesOf_245 : decode cX7_outcomesOf 245 = .ok (.bipush 108, 2) := by decide +kernel
theorem dX7_outcomesOf_247 : decode cX7_outcomesOf 247 = .ok (.castore, 1) := by decide +kernel
theorem dX7_outcomesOf_248 : decode cX7_outcomesOf 248 = .ok (.aload_n 3, 1) := by decide +kernel
theorem dX7_outcomesOf_249 : decode cX7_outcomesOf 249 = .ok (.iconst 0, 1) := by decide +kernel
theorem dX7_outcomesOf_250 : decode cX7_outcomesOf 250 = .ok (.dup2, 1) := by decide +kernel
theorem dX7_outcomesOf_251 : decode cX7_outcomesOf 251 = .ok (.iaload, 1) := by decide +kernel
theorem dX7_outcomesOf_252 : decode cX7_outcomesOf 252 = .ok (.iload 6, 2) := by decide +kernel
theorem dX7_outcomesOf_254 : decode cX7_outcomesOf 254 = .ok (.isub, 1) := by decide +kernel
theorem dX7_outcomesOf_255 : decode cX7_outcomesOf 255 = .ok (.iastore, 1) := by decide +kernel
theorem dX7_outcomesOf_256 : decode cX7_outcomesOf 256 = .ok (.aload_n 3, 1) := by decide +kernel
theorem dX7_outcomesOf_257 : decode cX7_outcomesOf 257 = .ok (.iload 8, 2) := by decide +kernel
theorem dX7_outcomesOf_259 : decode cX7_outcomesOf 259 = .ok (.dup2, 1) := by decide +kernel
theorem dX7_outcomesOf_260 : decode cX7_outcomesOf 260 = .ok (.iaload, 1) := by decide +kernel
theorem dX7_outcomesOf_261 : decode cX7_outcomesOf 261 = .ok (.iconst 1, 1) := by decide +kernel
theorem dX7_outcomesOf_262 : decode cX7_outcomesOf 262 = .ok (.isub, 1) := by decide +kernel
theorem dX7_outcomesOf_263 : decode cX7_outcomesOf 263 = .ok (.iastore, 1) := by decide +kernel
theorem dX7_outcomesOf_264 : decode cX7_outcomesOf 264 = .ok (.iinc 5 1, 3) := by decide +kernel
theorem dX7_outcomesOf_267 : decode cX7_outcomesOf 267 = .ok (.goto (-258), 3) := by decide +kernel
theorem dX7_outcomesOf_270 : decode cX7_outcomesOf 270 = .ok (.aload 4, 2) := by decide +kernel
theorem dX7_outcomesOf_272 : decode cX7_outcomesOf 272 = .ok (.areturn, 1) := by decide +kernel
theorem dX7_stock_0 : decode cX7_stock 0 = .ok (.iconst 3, 1) := by decide +kernel
theorem dX7_stock_1 : decode cX7_stock 1 = .ok (.newarray .int, 2) := by decide +kernel
theorem dX7_stock_3 : decode cX7_stock 3 = .ok (.dup, 1) := by decide +kernel
theorem dX7_stock_4 : decode cX7_stock 4 = .ok (.iconst 0, 1) := by decide +kernel
theorem dX7_stock_5 : decode cX7_stock 5 = .ok (.aload_n 0, 1) := by decide +kernel
theorem dX7_stock_6 : decode cX7_stock 6 = .ok (.getfield 115, 3) := by decide +kernel
theorem dX7_stock_9 : decode cX7_stock 9 = .ok (.iastore, 1) := by decide +kernel
theorem dX7_stock_10 : decode cX7_stock 10 = .ok (.dup, 1) := by decide +kernel
theorem dX7_stock_11 : decode cX7_stock 11 = .ok (.iconst 1, 1) := by decide +kernel
theorem dX7_stock_12 : decode cX7_stock 12 = .ok (.aload_n 0, 1) := by decide +kernel
theorem dX7_stock_13 : decode cX7_stock 13 = .ok (.getfield 47, 3) := by decide +kernel
theorem dX7_stock_16 : decode cX7_stock 16 = .ok (.iconst 0, 1) := by decide +kernel
theorem dX7_stock_17 : decode cX7_stock 17 = .ok (.iaload, 1) := by decide +kernel
theorem dX7_stock_18 : decode cX7_stock 18 = .ok (.iastore, 1) := by decide +kernel
theorem dX7_stock_19 : decode cX7_stock 19 = .ok (.dup, 1) := by decide +kernel
theorem dX7_stock_20 : decode cX7_stock 20 = .ok (.iconst 2, 1) := by decide +kernel
theorem dX7_stock_21 : decode cX7_stock 21 = .ok (.aload_n 0, 1) := by decide +kernel
theorem dX7_stock_22 : decode cX7_stock 22 = .ok (.getfield 47, 3) := by decide +kernel
theorem dX7_stock_25 : decode cX7_stock 25 = .ok (.iconst 1, 1) := by decide +kernel
theorem dX7_stock_26 : decode cX7_stock 26 = .ok (.iaload, 1) := by decide +kernel
theorem dX7_stock_27 : decode cX7_stock 27 = .ok (.iastore, 1) := by decide +kernel
theorem dX7_stock_28 : decode cX7_stock 28 = .ok (.areturn, 1) := by decide +kernel
theorem dX7_postageOf_0 : decode cX7_postageOf 0 = .ok (.iconst 5, 1) := by decide +kernel
theorem dX7_postageOf_1 : decode cX7_postageOf 1 = .ok (.iload_n 0, 1) := by decide +kernel
theorem dX7_postageOf_2 : decode cX7_postageOf 2 = .ok (.imul, 1) := by decide +kernel
theorem dX7_postageOf_3 : decode cX7_postageOf 3 = .ok (.iload_n 0, 1) := by decide +kernel
theorem dX7_postageOf_4 : decode cX7_postageOf 4 = .ok (.iconst 3, 1) := by decide +kernel
theorem dX7_postageOf_5 : decode cX7_postageOf 5 = .ok (.if_icmp .le 8, 3) := by decide +kernel
theorem dX7_postageOf_8 : decode cX7_postageOf 8 = .ok (.bipush 25, 2) := by decide +kernel
theorem dX7_postageOf_10 : decode cX7_postageOf 10 = .ok (.goto 5, 3) := by decide +kernel
theorem dX7_postageOf_13 : decode cX7_postageOf 13 = .ok (.bipush 10, 2) := by decide +kernel
theorem dX7_postageOf_15 : decode cX7_postageOf 15 = .ok (.iadd, 1) := by decide +kernel
theorem dX7_postageOf_16 : decode cX7_postageOf 16 = .ok (.istore_n 1, 1) := by decide +kernel
theorem dX7_postageOf_17 : decode cX7_postageOf 17 = .ok (.iload_n 1, 1) := by decide +kernel
theorem dX7_postageOf_18 : decode cX7_postageOf 18 = .ok (.bipush 20, 2) := by decide +kernel
theorem dX7_postageOf_20 : decode cX7_postageOf 20 = .ok (.if_icmp .gt 8, 3) := by decide +kernel
theorem dX7_postageOf_23 : decode cX7_postageOf 23 = .ok (.bipush 80, 2) := by decide +kernel
theorem dX7_postageOf_25 : decode cX7_postageOf 25 = .ok (.goto 17, 3) := by decide +kernel
theorem dX7_postageOf_28 : decode cX7_postageOf 28 = .ok (.iload_n 1, 1) := by decide +kernel
theorem dX7_postageOf_29 : decode cX7_postageOf 29 = .ok (.bipush 40, 2) := by decide +kernel
theorem dX7_postageOf_31 : decode cX7_postageOf 31 = .ok (.if_icmp .gt 8, 3) := by decide +kernel
theorem dX7_postageOf_34 : decode cX7_postageOf 34 = .ok (.bipush 95, 2) := by decide +kernel
theorem dX7_postageOf_36 : decode cX7_postageOf 36 = .ok (.goto 6, 3) := by decide +kernel
theorem dX7_postageOf_39 : decode cX7_postageOf 39 = .ok (.sipush 160, 3) := by decide +kernel
theorem dX7_postageOf_42 : decode cX7_postageOf 42 = .ok (.ireturn, 1) := by decide +kernel
theorem dX7_run_0 : decode cX7_run 0 = .ok (.aload_n 0, 1) := by decide +kernel
theorem dX7_run_1 : decode cX7_run 1 = .ok (.aload_n 0, 1) := by decide +kernel
theorem dX7_run_2 : decode cX7_run 2 = .ok (.iload_n 1, 1) := by decide +kernel
theorem dX7_run_3 : decode cX7_run 3 = .ok (.invokevirtual 105, 3) := by decide +kernel
theorem dX7_run_6 : decode cX7_run 6 = .ok (.ifCond .ne 7, 3) := by decide +kernel
theorem dX7_run_9 : decode cX7_run 9 = .ok (.iconst 1, 1) := by decide +kernel
theorem dX7_run_10 : decode cX7_run 10 = .ok (.goto 17, 3) := by decide +kernel
theorem dX7_run_13 : decode cX7_run 13 = .ok (.aload_n 0, 1) := by decide +kernel
theorem dX7_run_14 : decode cX7_run 14 = .ok (.getfield 95, 3) := by decide +kernel
theorem dX7_run_17 : decode cX7_run 17 = .ok (.bipush 10, 2) := by decide +kernel
theorem dX7_run_19 : decode cX7_run 19 = .ok (.if_icmp .ne 7, 3) := by decide +kernel
theorem dX7_run_22 : decode cX7_run 22 = .ok (.iconst 2, 1) := by decide +kernel
theorem dX7_run_23 : decode cX7_run 23 = .ok (.goto 4, 3) := by decide +kernel
theorem dX7_run_26 : decode cX7_run 26 = .ok (.iconst 0, 1) := by decide +kernel
theorem dX7_run_27 : decode cX7_run 27 = .ok (.putfield 79, 3) := by decide +kernel
theorem dX7_run_30 : decode cX7_run 30 = .ok (.aload_n 0, 1) := by decide +kernel
theorem dX7_run_31 : decode cX7_run 31 = .ok (.getfield 79, 3) := by decide +kernel
theorem dX7_run_34 : decode cX7_run 34 = .ok (.ifCond .le 5, 3) := by decide +kernel
theorem dX7_run_37 : decode cX7_run 37 = .ok (.iconst 0, 1) := by decide +kernel
theorem dX7_run_38 : decode cX7_run 38 = .ok (.ireturn, 1) := by decide +kernel
theorem dX7_run_39 : decode cX7_run 39 = .ok (.aload_n 0, 1) := by decide +kernel
theorem dX7_run_40 : decode cX7_run 40 = .ok (.invokevirtual 121, 3) := by decide +kernel
theorem dX7_run_43 : decode cX7_run 43 = .ok (.astore_n 3, 1) := by decide +kernel
theorem dX7_run_44 : decode cX7_run 44 = .ok (.aload_n 0, 1) := by decide +kernel
theorem dX7_run_45 : decode cX7_run 45 = .ok (.iload_n 1, 1) := by decide +kernel
theorem dX7_run_46 : decode cX7_run 46 = .ok (.iload_n 2, 1) := by decide +kernel
theorem dX7_run_47 : decode cX7_run 47 = .ok (.aload_n 3, 1) := by decide +kernel
theorem dX7_run_48 : decode cX7_run 48 = .ok (.invokevirtual 125, 3) := by decide +kernel
theorem dX7_run_51 : decode cX7_run 51 = .ok (.astore 4, 2) := by decide +kernel
theorem dX7_run_53 : decode cX7_run 53 = .ok (.iconst 0, 1) := by decide +kernel
theorem dX7_run_54 : decode cX7_run 54 = .ok (.istore 5, 2) := by decide +kernel
theorem dX7_run_56 : decode cX7_run 56 = .ok (.iload 5, 2) := by decide +kernel
theorem dX7_run_58 : decode cX7_run 58 = .ok (.aload_n 0, 1) := by decide +kernel
theorem dX7_run_59 : decode cX7_run 59 = .ok (.getfield 82, 3) := by decide +kernel
theorem dX7_run_62 : decode cX7_run 62 = .ok (.if_icmp .ge 36, 3) := by decide +kernel
theorem dX7_run_65 : decode cX7_run 65 = .ok (.aload_n 0, 1) := by decide +kernel
theorem dX7_run_66 : decode cX7_run 66 = .ok (.getfield 13, 3) := by decide +kernel
theorem dX7_run_69 : decode cX7_run 69 = .ok (.iload 5, 2) := by decide +kernel
theorem dX7_run_71 : decode cX7_run 71 = .ok (.aload_n 0, 1) := by decide +kernel
theorem dX7_run_72 : decode cX7_run 72 = .ok (.iload 5, 2) := by decide +kernel
theorem dX7_run_74 : decode cX7_run 74 = .ok (.invokevirtual 118, 3) := by decide +kernel
theorem dX7_run_77 : decode cX7_run 77 = .ok (.ifCond .eq 7, 3) := by decide +kernel
theorem dX7_run_80 : decode cX7_run 80 = .ok (.iconst 0, 1) := by decide +kernel
theorem dX7_run_81 : decode cX7_run 81 = .ok (.goto 10, 3) := by decide +kernel
theorem dX7_run_84 : decode cX7_run 84 = .ok (.aload_n 0, 1) := by decide +kernel
theorem dX7_run_85 : decode cX7_run 85 = .ok (.getfield 13, 3) := by decide +kernel
theorem dX7_run_88 : decode cX7_run 88 = .ok (.iload 5, 2) := by decide +kernel
theorem dX7_run_90 : decode cX7_run 90 = .ok (.iaload, 1) := by decide +kernel
theorem dX7_run_91 : decode cX7_run 91 = .ok (.iastore, 1) := by decide +kernel
theorem dX7_run_92 : decode cX7_run 92 = .ok (.iinc 5 1, 3) := by decide +kernel
theorem dX7_run_95 : decode cX7_run 95 = .ok (.goto (-39), 3) := by decide +kernel
theorem dX7_run_98 : decode cX7_run 98 = .ok (.aload_n 0, 1) := by decide +kernel
theorem dX7_run_99 : decode cX7_run 99 = .ok (.aload_n 3, 1) := by decide +kernel
theorem dX7_run_100 : decode cX7_run 100 = .ok (.iconst 0, 1) := by decide +kernel
theorem dX7_run_101 : decode cX7_run 101 = .ok (.iaload, 1) := by decide +kernel
theorem dX7_run_102 : decode cX7_run 102 = .ok (.putfield 115, 3) := by decide +kernel
theorem dX7_run_105 : decode cX7_run 105 = .ok (.aload_n 0, 1) := by decide +kernel
theorem dX7_run_106 : decode cX7_run 106 = .ok (.getfield 47, 3) := by decide +kernel
theorem dX7_run_109 : decode cX7_run 109 = .ok (.iconst 0, 1) := by decide +kernel
theorem dX7_run_110 : decode cX7_run 110 = .ok (.aload_n 3, 1) := by decide +kernel
theorem dX7_run_111 : decode cX7_run 111 = .ok (.iconst 1, 1) := by decide +kernel
theorem dX7_run_112 : decode cX7_run 112 = .ok (.iaload, 1) := by decide +kernel
theorem dX7_run_113 : decode cX7_run 113 = .ok (.iastore, 1) := by decide +kernel
theorem dX7_run_114 : decode cX7_run 114 = .ok (.aload_n 0, 1) := by decide +kernel
theorem dX7_run_115 : decode cX7_run 115 = .ok (.getfield 47, 3) := by decide +kernel
theorem dX7_run_118 : decode cX7_run 118 = .ok (.iconst 1, 1) := by decide +kernel
theorem dX7_run_119 : decode cX7_run 119 = .ok (.aload_n 3, 1) := by decide +kernel
theorem dX7_run_120 : decode cX7_run 120 = .ok (.iconst 2, 1) := by decide +kernel
theorem dX7_run_121 : decode cX7_run 121 = .ok (.iaload, 1) := by decide +kernel
theorem dX7_run_122 : decode cX7_run 122 = .ok (.iastore, 1) := by decide +kernel
theorem dX7_run_123 : decode cX7_run 123 = .ok (.bipush 10, 2) := by decide +kernel
theorem dX7_run_125 : decode cX7_run 125 = .ok (.newarray .int, 2) := by decide +kernel
theorem dX7_run_127 : decode cX7_run 127 = .ok (.astore 5, 2) := by decide +kernel
theorem dX7_run_129 : decode cX7_run 129 = .ok (.iconst 0, 1) := by decide +kernel
theorem dX7_run_130 : decode cX7_run 130 = .ok (.istore 6, 2) := by decide +kernel
theorem dX7_run_132 : decode cX7_run 132 = .ok (.iload 6, 2) := by decide +kernel
theorem dX7_run_134 : decode cX7_run 134 = .ok (.aload_n 0, 1) := by decide +kernel
theorem dX7_run_135 : decode cX7_run 135 = .ok (.getfield 89, 3) := by decide +kernel
theorem dX7_run_138 : decode cX7_run 138 = .ok (.if_icmp .ge 147, 3) := by decide +kernel
theorem dX7_run_141 : decode cX7_run 141 = .ok (.aload_n 0, 1) := by decide +kernel
theorem dX7_run_142 : decode cX7_run 142 = .ok (.getfield 59, 3) := by decide +kernel
theorem dX7_run_145 : decode cX7_run 145 = .ok (.aload_n 0, 1) := by decide +kernel
theorem dX7_run_146 : decode cX7_run 146 = .ok (.getfield 95, 3) := by decide +kernel
theorem dX7_run_149 : decode cX7_run 149 = .ok (.aaload, 1) := by decide +kernel
theorem dX7_run_150 : decode cX7_run 150 = .ok (.iload 6, 2) := by decide +kernel
theorem dX7_run_152 : decode cX7_run 152 = .ok (.aload 4, 2) := by decide +kernel
theorem dX7_run_154 : decode cX7_run 154 = .ok (.iload 6, 2) := by decide +kernel
theorem dX7_run_156 : decode cX7_run 156 = .ok (.caload, 1) := by decide +kernel
theorem dX7_run_157 : decode cX7_run 157 = .ok (.castore, 1) := by decide +kernel
theorem dX7_run_158 : decode cX7_run 158 = .ok (.aload_n 0, 1) := by decide +kernel
theorem dX7_run_159 : decode cX7_run 159 = .ok (.getfield 76, 3) := by decide +kernel
theorem dX7_run_162 : decode cX7_run 162 = .ok (.aload_n 0, 1) := by decide +kernel
theorem dX7_run_163 : decode cX7_run 163 = .ok (.getfield 95, 3) := by decide +kernel
theorem dX7_run_166 : decode cX7_run 166 = .ok (.aaload, 1) := by decide +kernel
theorem dX7_run_167 : decode cX7_run 167 = .ok (.iload 6, 2) := by decide +kernel
theorem dX7_run_169 : decode cX7_run 169 = .ok (.iconst 0, 1) := by decide +kernel
theorem dX7_run_170 : decode cX7_run 170 = .ok (.bastore, 1) := by decide +kernel
theorem dX7_run_171 : decode cX7_run 171 = .ok (.aload_n 0, 1) := by decide +kernel
theorem dX7_run_172 : decode cX7_run 172 = .ok (.getfield 62, 3) := by decide +kernel
theorem dX7_run_175 : decode cX7_run 175 = .ok (.aload_n 0, 1) := by decide +kernel
theorem dX7_run_176 : decode cX7_run 176 = .ok (.getfield 95, 3) := by decide +kernel
theorem dX7_run_179 : decode cX7_run 179 = .ok (.aaload, 1) := by decide +kernel
theorem dX7_run_180 : decode cX7_run 180 = .ok (.iload 6, 2) := by decide +kernel
theorem dX7_run_182 : decode cX7_run 182 = .ok (.aload_n 0, 1) := by decide +kernel
theorem dX7_run_183 : decode cX7_run 183 = .ok (.iload_n 1, 1) := by decide +kernel
theorem dX7_run_184 : decode cX7_run 184 = .ok (.aload_n 0, 1) := by decide +kernel
theorem dX7_run_185 : decode cX7_run 185 = .ok (.getfield 23, 3) := by decide +kernel
theorem dX7_run_188 : decode cX7_run 188 = .ok (.iload 6, 2) := by decide +kernel
theorem dX7_run_190 : decode cX7_run 190 = .ok (.iaload, 1) := by decide +kernel
theorem dX7_run_191 : decode cX7_run 191 = .ok (.invokevirtual 112, 3) := by decide +kernel
theorem dX7_run_194 : decode cX7_run 194 = .ok (.iastore, 1) := by decide +kernel
theorem dX7_run_195 : decode cX7_run 195 = .ok (.aload_n 0, 1) := by decide +kernel
theorem dX7_run_196 : decode cX7_run 196 = .ok (.getfield 68, 3) := by decide +kernel
theorem dX7_run_199 : decode cX7_run 199 = .ok (.aload_n 0, 1) := by decide +kernel
theorem dX7_run_200 : decode cX7_run 200 = .ok (.getfield 95, 3) := by decide +kernel
theorem dX7_run_203 : decode cX7_run 203 = .ok (.aaload, 1) := by decide +kernel
theorem dX7_run_204 : decode cX7_run 204 = .ok (.iload 6, 2) := by decide +kernel
theorem dX7_run_206 : decode cX7_run 206 = .ok (.aload_n 0, 1) := by decide +kernel
theorem dX7_run_207 : decode cX7_run 207 = .ok (.iload_n 1, 1) := by decide +kernel
theorem dX7_run_208 : decode cX7_run 208 = .ok (.aload_n 0, 1) := by decide +kernel
theorem dX7_run_209 : decode cX7_run 209 = .ok (.getfield 23, 3) := by decide +kernel
theorem dX7_run_212 : decode cX7_run 212 = .ok (.iload 6, 2) := by decide +kernel
theorem dX7_run_214 : decode cX7_run 214 = .ok (.iaload, 1) := by decide +kernel
theorem dX7_run_215 : decode cX7_run 215 = .ok (.invokevirtual 108, 3) := by decide +kernel
theorem dX7_run_218 : decode cX7_run 218 = .ok (.iastore, 1) := by decide +kernel
theorem dX7_run_219 : decode cX7_run 219 = .ok (.aload_n 0, 1) := by decide +kernel
theorem dX7_run_220 : decode cX7_run 220 = .ok (.getfield 65, 3) := by decide +kernel
theorem dX7_run_223 : decode cX7_run 223 = .ok (.aload_n 0, 1) := by decide +kernel
theorem dX7_run_224 : decode cX7_run 224 = .ok (.getfield 95, 3) := by decide +kernel
theorem dX7_run_227 : decode cX7_run 227 = .ok (.aaload, 1) := by decide +kernel
theorem dX7_run_228 : decode cX7_run 228 = .ok (.iload 6, 2) := by decide +kernel
theorem dX7_run_230 : decode cX7_run 230 = .ok (.aload_n 0, 1) := by decide +kernel
theorem dX7_run_231 : decode cX7_run 231 = .ok (.getfield 9, 3) := by decide +kernel
theorem dX7_run_234 : decode cX7_run 234 = .ok (.aload_n 0, 1) := by decide +kernel
theorem dX7_run_235 : decode cX7_run 235 = .ok (.getfield 20, 3) := by decide +kernel
theorem dX7_run_238 : decode cX7_run 238 = .ok (.iload 6, 2) := by decide +kernel
theorem dX7_run_240 : decode cX7_run 240 = .ok (.iaload, 1) := by decide +kernel
theorem dX7_run_241 : decode cX7_run 241 = .ok (.iaload, 1) := by decide +kernel
theorem dX7_run_242 : decode cX7_run 242 = .ok (.iastore, 1) := by decide +kernel
theorem dX7_run_243 : decode cX7_run 243 = .ok (.aload 5, 2) := by decide +kernel
theorem dX7_run_245 : decode cX7_run 245 = .ok (.aload_n 0, 1) := by decide +kernel
theorem dX7_run_246 : decode cX7_run 246 = .ok (.getfield 9, 3) := by decide +kernel
theorem dX7_run_249 : decode cX7_run 249 = .ok (.aload_n 0, 1) := by decide +kernel
theorem dX7_run_250 : decode cX7_run 250 = .ok (.getfield 20, 3) := by decide +kernel
theorem dX7_run_253 : decode cX7_run 253 = .ok (.iload 6, 2) := by decide +kernel
theorem dX7_run_255 : decode cX7_run 255 = .ok (.iaload, 1) := by decide +kernel
theorem dX7_run_256 : decode cX7_run 256 = .ok (.iaload, 1) := by decide +kernel
theorem dX7_run_257 : decode cX7_run 257 = .ok (.bipush 10, 2) := by decide +kernel
theorem dX7_run_259 : decode cX7_run 259 = .ok (.idiv, 1) := by decide +kernel
theorem dX7_run_260 : decode cX7_run 260 = .ok (.dup2, 1) := by decide +kernel
theorem dX7_run_261 : decode cX7_run 261 = .ok (.iaload, 1) := by decide +kernel
theorem dX7_run_262 : decode cX7_run 262 = .ok (.aload 4, 2) := by decide +kernel
theorem dX7_run_264 : decode cX7_run 264 = .ok (.iload 6, 2) := by decide +kernel
theorem dX7_run_266 : decode cX7_run 266 = .ok (.caload, 1) := by decide +kernel
theorem dX7_run_267 : decode cX7_run 267 = .ok (.bipush 108, 2) := by decide +kernel
theorem dX7_run_269 : decode cX7_run 269 = .ok (.if_icmp .ne 7, 3) := by decide +kernel
theorem dX7_run_272 : decode cX7_run 272 = .ok (.iconst 1, 1) := by decide +kernel
theorem dX7_run_273 : decode cX7_run 273 = .ok (.goto 4, 3) := by decide +kernel
theorem dX7_run_276 : decode cX7_run 276 = .ok (.iconst 0, 1) := by decide +kernel
theorem dX7_run_277 : decode cX7_run 277 = .ok (.iadd, 1) := by decide +kernel
theorem dX7_run_278 : decode cX7_run 278 = .ok (.iastore, 1) := by decide +kernel
theorem dX7_run_279 : decode cX7_run 279 = .ok (.iinc 6 1, 3) := by decide +kernel
theorem dX7_run_282 : decode cX7_run 282 = .ok (.goto (-150), 3) := by decide +kernel
theorem dX7_run_285 : decode cX7_run 285 = .ok (.iconst 0, 1) := by decide +kernel
theorem dX7_run_286 : decode cX7_run 286 = .ok (.istore 6, 2) := by decide +kernel
theorem dX7_run_288 : decode cX7_run 288 = .ok (.iload 6, 2) := by decide +kernel
theorem dX7_run_290 : decode cX7_run 290 = .ok (.aload_n 0, 1) := by decide +kernel
theorem dX7_run_291 : decode cX7_run 291 = .ok (.getfield 89, 3) := by decide +kernel
theorem dX7_run_294 : decode cX7_run 294 = .ok (.if_icmp .ge 75, 3) := by decide +kernel
theorem dX7_run_297 : decode cX7_run 297 = .ok (.aload_n 0, 1) := by decide +kernel
theorem dX7_run_298 : decode cX7_run 298 = .ok (.getfield 62, 3) := by decide +kernel
theorem dX7_run_301 : decode cX7_run 301 = .ok (.aload_n 0, 1) := by decide +kernel
theorem dX7_run_302 : decode cX7_run 302 = .ok (.getfield 95, 3) := by decide +kernel
theorem dX7_run_305 : decode cX7_run 305 = .ok (.aaload, 1) := by decide +kernel
theorem dX7_run_306 : decode cX7_run 306 = .ok (.iload 6, 2) := by decide +kernel
theorem dX7_run_308 : decode cX7_run 308 = .ok (.iaload, 1) := by decide +kernel
theorem dX7_run_309 : decode cX7_run 309 = .ok (.invokestatic 129, 3) := by decide +kernel
theorem dX7_run_312 : decode cX7_run 312 = .ok (.istore 7, 2) := by decide +kernel
theorem dX7_run_314 : decode cX7_run 314 = .ok (.aload_n 0, 1) := by decide +kernel
theorem dX7_run_315 : decode cX7_run 315 = .ok (.getfield 71, 3) := by decide +kernel
theorem dX7_run_318 : decode cX7_run 318 = .ok (.aload_n 0, 1) := by decide +kernel
theorem dX7_run_319 : decode cX7_run 319 = .ok (.getfield 95, 3) := by decide +kernel
theorem dX7_run_322 : decode cX7_run 322 = .ok (.aaload, 1) := by decide +kernel
theorem dX7_run_323 : decode cX7_run 323 = .ok (.iload 6, 2) := by decide +kernel
theorem dX7_run_325 : decode cX7_run 325 = .ok (.aload 5, 2) := by decide +kernel
theorem dX7_run_327 : decode cX7_run 327 = .ok (.aload_n 0, 1) := by decide +kernel
theorem dX7_run_328 : decode cX7_run 328 = .ok (.getfield 9, 3) := by decide +kernel
theorem dX7_run_331 : decode cX7_run 331 = .ok (.aload_n 0, 1) := by decide +kernel
theorem dX7_run_332 : decode cX7_run 332 = .ok (.getfield 20, 3) := by decide +kernel
theorem dX7_run_335 : decode cX7_run 335 = .ok (.iload 6, 2) := by decide +kernel
theorem dX7_run_337 : decode cX7_run 337 = .ok (.iaload, 1) := by decide +kernel
theorem dX7_run_338 : decode cX7_run 338 = .ok (.iaload, 1) := by decide +kernel
theorem dX7_run_339 : decode cX7_run 339 = .ok (.bipush 10, 2) := by decide +kernel
theorem dX7_run_341 : decode cX7_run 341 = .ok (.idiv, 1) := by decide +kernel
theorem dX7_run_342 : decode cX7_run 342 = .ok (.iaload, 1) := by decide +kernel
theorem dX7_run_343 : decode cX7_run 343 = .ok (.aload_n 0, 1) := by decide +kernel
theorem dX7_run_344 : decode cX7_run 344 = .ok (.getfield 50, 3) := by decide +kernel
theorem dX7_run_347 : decode cX7_run 347 = .ok (.if_icmp .lt 13, 3) := by decide +kernel
theorem dX7_run_350 : decode cX7_run 350 = .ok (.iload 7, 2) := by decide +kernel
theorem dX7_run_352 : decode cX7_run 352 = .ok (.iload 7, 2) := by decide +kernel
theorem dX7_run_354 : decode cX7_run 354 = .ok (.iconst 5, 1) := by decide +kernel
theorem dX7_run_355 : decode cX7_run 355 = .ok (.idiv, 1) := by decide +kernel
theorem dX7_run_356 : decode cX7_run 356 = .ok (.isub, 1) := by decide +kernel
theorem dX7_run_357 : decode cX7_run 357 = .ok (.goto 5, 3) := by decide +kernel
theorem dX7_run_360 : decode cX7_run 360 = .ok (.iload 7, 2) := by decide +kernel
theorem dX7_run_362 : decode cX7_run 362 = .ok (.iastore, 1) := by decide +kernel
theorem dX7_run_363 : decode cX7_run 363 = .ok (.iinc 6 1, 3) := by decide +kernel
theorem dX7_run_366 : decode cX7_run 366 = .ok (.goto (-78), 3) := by decide +kernel
theorem dX7_run_369 : decode cX7_run 369 = .ok (.aload_n 0, 1) := by decide +kernel
theorem dX7_run_370 : decode cX7_run 370 = .ok (.getfield 54, 3) := by decide +kernel
theorem dX7_run_373 : decode cX7_run 373 = .ok (.aload_n 0, 1) := by decide +kernel
theorem dX7_run_374 : decode cX7_run 374 = .ok (.getfield 95, 3) := by decide +kernel
theorem dX7_run_377 : decode cX7_run 377 = .ok (.aload_n 0, 1) := by decide +kernel
theorem dX7_run_378 : decode cX7_run 378 = .ok (.getfield 89, 3) := by decide +kernel
theorem dX7_run_381 : decode cX7_run 381 = .ok (.iastore, 1) := by decide +kernel
theorem dX7_run_382 : decode cX7_run 382 = .ok (.aload_n 0, 1) := by decide +kernel
theorem dX7_run_383 : decode cX7_run 383 = .ok (.getfield 44, 3) := by decide +kernel
theorem dX7_run_386 : decode cX7_run 386 = .ok (.iload_n 1, 1) := by decide +kernel
theorem dX7_run_387 : decode cX7_run 387 = .ok (.iconst 1, 1) := by decide +kernel
theorem dX7_run_388 : decode cX7_run 388 = .ok (.bastore, 1) := by decide +kernel
theorem dX7_run_389 : decode cX7_run 389 = .ok (.aload_n 0, 1) := by decide +kernel
theorem dX7_run_390 : decode cX7_run 390 = .ok (.dup, 1) := by decide +kernel
theorem dX7_run_391 : decode cX7_run 391 = .ok (.getfield 95, 3) := by decide +kernel
theorem dX7_run_394 : decode cX7_run 394 = .ok (.iconst 1, 1) := by decide +kernel
theorem dX7_run_395 : decode cX7_run 395 = .ok (.iadd, 1) := by decide +kernel
theorem dX7_run_396 : decode cX7_run 396 = .ok (.putfield 95, 3) := by decide +kernel
theorem dX7_run_399 : decode cX7_run 399 = .ok (.aload_n 0, 1) := by decide +kernel
theorem dX7_run_400 : decode cX7_run 400 = .ok (.getfield 95, 3) := by decide +kernel
theorem dX7_run_403 : decode cX7_run 403 = .ok (.iconst 1, 1) := by decide +kernel
theorem dX7_run_404 : decode cX7_run 404 = .ok (.isub, 1) := by decide +kernel
theorem dX7_run_405 : decode cX7_run 405 = .ok (.ireturn, 1) := by decide +kernel
theorem dX7_preview_0 : decode cX7_preview 0 = .ok (.aload_n 0, 1) := by decide +kernel
theorem dX7_preview_1 : decode cX7_preview 1 = .ok (.aload_n 0, 1) := by decide +kernel
theorem dX7_preview_2 : decode cX7_preview 2 = .ok (.iload_n 1, 1) := by decide +kernel
theorem dX7_preview_3 : decode cX7_preview 3 = .ok (.invokevirtual 105, 3) := by decide +kernel
theorem dX7_preview_6 : decode cX7_preview 6 = .ok (.ifCond .eq 11, 3) := by decide +kernel
theorem dX7_preview_9 : decode cX7_preview 9 = .ok (.aload_n 0, 1) := by decide +kernel
theorem dX7_preview_10 : decode cX7_preview 10 = .ok (.iload_n 3, 1) := by decide +kernel
theorem dX7_preview_11 : decode cX7_preview 11 = .ok (.invokevirtual 102, 3) := by decide +kernel
theorem dX7_preview_14 : decode cX7_preview 14 = .ok (.ifCond .ne 7, 3) := by decide +kernel
theorem dX7_preview_17 : decode cX7_preview 17 = .ok (.iconst 1, 1) := by decide +kernel
theorem dX7_preview_18 : decode cX7_preview 18 = .ok (.goto 4, 3) := by decide +kernel
theorem dX7_preview_21 : decode cX7_preview 21 = .ok (.iconst 0, 1) := by decide +kernel
theorem dX7_preview_22 : decode cX7_preview 22 = .ok (.putfield 79, 3) := by decide +kernel
theorem dX7_preview_25 : decode cX7_preview 25 = .ok (.aload_n 0, 1) := by decide +kernel
theorem dX7_preview_26 : decode cX7_preview 26 = .ok (.getfield 79, 3) := by decide +kernel
theorem dX7_preview_29 : decode cX7_preview 29 = .ok (.ifCond .le 8, 3) := by decide +kernel
theorem dX7_preview_32 : decode cX7_preview 32 = .ok (.bipush 45, 2) := by decide +kernel
theorem dX7_preview_34 : decode cX7_preview 34 = .ok (.goto 15, 3) := by decide +kernel
theorem dX7_preview_37 : decode cX7_preview 37 = .ok (.aload_n 0, 1) := by decide +kernel
theorem dX7_preview_38 : decode cX7_preview 38 = .ok (.iload_n 1, 1) := by decide +kernel
theorem dX7_preview_39 : decode cX7_preview 39 = .ok (.iload_n 2, 1) := by decide +kernel
theorem dX7_preview_40 : decode cX7_preview 40 = .ok (.aload_n 0, 1) := by decide +kernel
theorem dX7_preview_41 : decode cX7_preview 41 = .ok (.invokevirtual 121, 3) := by decide +kernel
theorem dX7_preview_44 : decode cX7_preview 44 = .ok (.invokevirtual 125, 3) := by decide +kernel
theorem dX7_preview_47 : decode cX7_preview 47 = .ok (.iload_n 3, 1) := by decide +kernel
theorem dX7_preview_48 : decode cX7_preview 48 = .ok (.caload, 1) := by decide +kernel
theorem dX7_preview_49 : decode cX7_preview 49 = .ok (.ireturn, 1) := by decide +kernel
theorem dX7_previewAlone_0 : decode cX7_previewAlone 0 = .ok (.aload_n 0, 1) := by decide +kernel
theorem dX7_previewAlone_1 : decode cX7_previewAlone 1 = .ok (.iload_n 1, 1) := by decide +kernel
theorem dX7_previewAlone_2 : decode cX7_previewAlone 2 = .ok (.iload_n 2, 1) := by decide +kernel
theorem dX7_previewAlone_3 : decode cX7_previewAlone 3 = .ok (.iload_n 3, 1) := by decide +kernel
theorem dX7_previewAlone_4 : decode cX7_previewAlone 4 = .ok (.invokevirtual 133, 3) := by decide +kernel
theorem dX7_previewAlone_7 : decode cX7_previewAlone 7 = .ok (.ireturn, 1) := by decide +kernel
theorem dX7_wasThere_0 : decode cX7_wasThere 0 = .ok (.aload_n 0, 1) := by decide +kernel
theorem dX7_wasThere_1 : decode cX7_wasThere 1 = .ok (.iload_n 1, 1) := by decide +kernel
theorem dX7_wasThere_2 : decode cX7_wasThere 2 = .ok (.invokevirtual 137, 3) := by decide +kernel
theorem dX7_wasThere_5 : decode cX7_wasThere 5 = .ok (.ifCond .eq 23, 3) := by decide +kernel
theorem dX7_wasThere_8 : decode cX7_wasThere 8 = .ok (.iload_n 2, 1) := by decide +kernel
theorem dX7_wasThere_9 : decode cX7_wasThere 9 = .ok (.iconst 0, 1) := by decide +kernel
theorem dX7_wasThere_10 : decode cX7_wasThere 10 = .ok (.aload_n 0, 1) := by decide +kernel
theorem dX7_wasThere_11 : decode cX7_wasThere 11 = .ok (.getfield 54, 3) := by decide +kernel
theorem dX7_wasThere_14 : decode cX7_wasThere 14 = .ok (.iload_n 1, 1) := by decide +kernel
theorem dX7_wasThere_15 : decode cX7_wasThere 15 = .ok (.iaload, 1) := by decide +kernel
theorem dX7_wasThere_16 : decode cX7_wasThere 16 = .ok (.iconst 1, 1) := by decide +kernel
theorem dX7_wasThere_17 : decode cX7_wasThere 17 = .ok (.isub, 1) := by decide +kernel
theorem dX7_wasThere_18 : decode cX7_wasThere 18 = .ok (.invokestatic 85, 3) := by decide +kernel
theorem dX7_wasThere_21 : decode cX7_wasThere 21 = .ok (.ifCond .eq 7, 3) := by decide +kernel
theorem dX7_wasThere_24 : decode cX7_wasThere 24 = .ok (.iconst 1, 1) := by decide +kernel
theorem dX7_wasThere_25 : decode cX7_wasThere 25 = .ok (.goto 4, 3) := by decide +kernel
theorem dX7_wasThere_28 : decode cX7_wasThere 28 = .ok (.iconst 0, 1) := by decide +kernel
theorem dX7_wasThere_29 : decode cX7_wasThere 29 = .ok (.ireturn, 1) := by decide +kernel
theorem dX7_outcome_0 : decode cX7_outcome 0 = .ok (.aload_n 0, 1) := by decide +kernel
theorem dX7_outcome_1 : decode cX7_outcome 1 = .ok (.aload_n 0, 1) := by decide +kernel
theorem dX7_outcome_2 : decode cX7_outcome 2 = .ok (.iload_n 1, 1) := by decide +kernel
theorem dX7_outcome_3 : decode cX7_outcome 3 = .ok (.iload_n 2, 1) := by decide +kernel
theorem dX7_outcome_4 : decode cX7_outcome 4 = .ok (.invokevirtual 140, 3) := by decide +kernel
theorem dX7_outcome_7 : decode cX7_outcome 7 = .ok (.ifCond .eq 7, 3) := by decide +kernel
theorem dX7_outcome_10 : decode cX7_outcome 10 = .ok (.iconst 0, 1) := by decide +kernel
theorem dX7_outcome_11 : decode cX7_outcome 11 = .ok (.goto 4, 3) := by decide +kernel
theorem dX7_outcome_14 : decode cX7_outcome 14 = .ok (.iconst 1, 1) := by decide +kernel
theorem dX7_outcome_15 : decode cX7_outcome 15 = .ok (.putfield 79, 3) := by decide +kernel
theorem dX7_outcome_18 : decode cX7_outcome 18 = .ok (.aload_n 0, 1) := by decide +kernel
theorem dX7_outcome_19 : decode cX7_outcome 19 = .ok (.getfield 79, 3) := by decide +kernel
theorem dX7_outcome_22 : decode cX7_outcome 22 = .ok (.ifCond .le 8, 3) := by decide +kernel
theorem dX7_outcome_25 : decode cX7_outcome 25 = .ok (.bipush 45, 2) := by decide +kernel
theorem dX7_outcome_27 : decode cX7_outcome 27 = .ok (.goto 11, 3) := by decide +kernel
theorem dX7_outcome_30 : decode cX7_outcome 30 = .ok (.aload_n 0, 1) := by decide +kernel
theorem dX7_outcome_31 : decode cX7_outcome 31 = .ok (.getfield 59, 3) := by decide +kernel
theorem dX7_outcome_34 : decode cX7_outcome 34 = .ok (.iload_n 1, 1) := by decide +kernel
theorem dX7_outcome_35 : decode cX7_outcome 35 = .ok (.aaload, 1) := by decide +kernel
theorem dX7_outcome_36 : decode cX7_outcome 36 = .ok (.iload_n 2, 1) := by decide +kernel
theorem dX7_outcome_37 : decode cX7_outcome 37 = .ok (.caload, 1) := by decide +kernel
theorem dX7_outcome_38 : decode cX7_outcome 38 = .ok (.ireturn, 1) := by decide +kernel
theorem dX7_comesBack_0 : decode cX7_comesBack 0 = .ok (.aload_n 0, 1) := by decide +kernel
theorem dX7_comesBack_1 : decode cX7_comesBack 1 = .ok (.iload_n 1, 1) := by decide +kernel
theorem dX7_comesBack_2 : decode cX7_comesBack 2 = .ok (.iload_n 2, 1) := by decide +kernel
theorem dX7_comesBack_3 : decode cX7_comesBack 3 = .ok (.invokevirtual 140, 3) := by decide +kernel
theorem dX7_comesBack_6 : decode cX7_comesBack 6 = .ok (.ifCond .ne 9, 3) := by decide +kernel
theorem dX7_comesBack_9 : decode cX7_comesBack 9 = .ok (.aload_n 0, 1) := by decide +kernel
theorem dX7_comesBack_10 : decode cX7_comesBack 10 = .ok (.iconst 1, 1) := by decide +kernel
theorem dX7_comesBack_11 : decode cX7_comesBack 11 = .ok (.invokevirtual 144, 3) := by decide +kernel
theorem dX7_comesBack_14 : decode cX7_comesBack 14 = .ok (.ireturn, 1) := by decide +kernel
theorem dX7_comesBack_15 : decode cX7_comesBack 15 = .ok (.iload_n 3, 1) := by decide +kernel
theorem dX7_comesBack_16 : decode cX7_comesBack 16 = .ok (.bipush 117, 2) := by decide +kernel
theorem dX7_comesBack_18 : decode cX7_comesBack 18 = .ok (.if_icmp .eq 15, 3) := by decide +kernel
theorem dX7_comesBack_21 : decode cX7_comesBack 21 = .ok (.iload_n 3, 1) := by decide +kernel
theorem dX7_comesBack_22 : decode cX7_comesBack 22 = .ok (.bipush 109, 2) := by decide +kernel
theorem dX7_comesBack_24 : decode cX7_comesBack 24 = .ok (.if_icmp .eq 9, 3) := by decide +kernel
theorem dX7_comesBack_27 : decode cX7_comesBack 27 = .ok (.iload_n 3, 1) := by decide +kernel
theorem dX7_comesBack_28 : decode cX7_comesBack 28 = .ok (.bipush 100, 2) := by decide +kernel
theorem dX7_comesBack_30 : decode cX7_comesBack 30 = .ok (.if_icmp .ne 7, 3) := by decide +kernel
theorem dX7_comesBack_33 : decode cX7_comesBack 33 = .ok (.iconst 1, 1) := by decide +kernel
theorem dX7_comesBack_34 : decode cX7_comesBack 34 = .ok (.goto 4, 3) := by decide +kernel
theorem dX7_comesBack_37 : decode cX7_comesBack 37 = .ok (.iconst 0, 1) := by decide +kernel
theorem dX7_comesBack_38 : decode cX7_comesBack 38 = .ok (.istore 4, 2) := by decide +kernel
theorem dX7_comesBack_40 : decode cX7_comesBack 40 = .ok (.aload_n 0, 1) := by decide +kernel
theorem dX7_comesBack_41 : decode cX7_comesBack 41 = .ok (.iload 4, 2) := by decide +kernel
theorem dX7_comesBack_43 : decode cX7_comesBack 43 = .ok (.ifCond .ne 7, 3) := by decide +kernel
theorem dX7_comesBack_46 : decode cX7_comesBack 46 = .ok (.iconst 2, 1) := by decide +kernel
theorem dX7_comesBack_47 : decode cX7_comesBack 47 = .ok (.goto 32, 3) := by decide +kernel
theorem dX7_comesBack_50 : decode cX7_comesBack 50 = .ok (.aload_n 0, 1) := by decide +kernel
theorem dX7_comesBack_51 : decode cX7_comesBack 51 = .ok (.getfield 59, 3) := by decide +kernel
theorem dX7_comesBack_54 : decode cX7_comesBack 54 = .ok (.iload_n 1, 1) := by decide +kernel
theorem dX7_comesBack_55 : decode cX7_comesBack 55 = .ok (.aaload, 1) := by decide +kernel
theorem dX7_comesBack_56 : decode cX7_comesBack 56 = .ok (.iload_n 2, 1) := by decide +kernel
theorem dX7_comesBack_57 : decode cX7_comesBack 57 = .ok (.caload, 1) := by decide +kernel
theorem dX7_comesBack_58 : decode cX7_comesBack 58 = .ok (.bipush 108, 2) := by decide +kernel
theorem dX7_comesBack_60 : decode cX7_comesBack 60 = .ok (.if_icmp .ne 14, 3) := by decide +kernel
theorem dX7_comesBack_63 : decode cX7_comesBack 63 = .ok (.aload_n 0, 1) := by decide +kernel
theorem dX7_comesBack_64 : decode cX7_comesBack 64 = .ok (.getfield 76, 3) := by decide +kernel
theorem dX7_comesBack_67 : decode cX7_comesBack 67 = .ok (.iload_n 1, 1) := by decide +kernel
theorem dX7_comesBack_68 : decode cX7_comesBack 68 = .ok (.aaload, 1) := by decide +kernel
theorem dX7_comesBack_69 : decode cX7_comesBack 69 = .ok (.iload_n 2, 1) := by decide +kernel
theorem dX7_comesBack_70 : decode cX7_comesBack 70 = .ok (.baload, 1) := by decide +kernel
theorem dX7_comesBack_71 : decode cX7_comesBack 71 = .ok (.ifCond .eq 7, 3) := by decide +kernel
theorem dX7_comesBack_74 : decode cX7_comesBack 74 = .ok (.iconst 3, 1) := by decide +kernel
theorem dX7_comesBack_75 : decode cX7_comesBack 75 = .ok (.goto 4, 3) := by decide +kernel
theorem dX7_comesBack_78 : decode cX7_comesBack 78 = .ok (.iconst 0, 1) := by decide +kernel
theorem dX7_comesBack_79 : decode cX7_comesBack 79 = .ok (.putfield 79, 3) := by decide +kernel
theorem dX7_comesBack_82 : decode cX7_comesBack 82 = .ok (.aload_n 0, 1) := by decide +kernel
theorem dX7_comesBack_83 : decode cX7_comesBack 83 = .ok (.getfield 79, 3) := by decide +kernel
theorem dX7_comesBack_86 : decode cX7_comesBack 86 = .ok (.ifCond .le 5, 3) := by decide +kernel
theorem dX7_comesBack_89 : decode cX7_comesBack 89 = .ok (.iconst 0, 1) := by decide +kernel
theorem dX7_comesBack_90 : decode cX7_comesBack 90 = .ok (.ireturn, 1) := by decide +kernel
theorem dX7_comesBack_91 : decode cX7_comesBack 91 = .ok (.aload_n 0, 1) := by decide +kernel
theorem dX7_comesBack_92 : decode cX7_comesBack 92 = .ok (.getfield 76, 3) := by decide +kernel
theorem dX7_comesBack_95 : decode cX7_comesBack 95 = .ok (.iload_n 1, 1) := by decide +kernel
theorem dX7_comesBack_96 : decode cX7_comesBack 96 = .ok (.aaload, 1) := by decide +kernel
theorem dX7_comesBack_97 : decode cX7_comesBack 97 = .ok (.iload_n 2, 1) := by decide +kernel
theorem dX7_comesBack_98 : decode cX7_comesBack 98 = .ok (.iconst 1, 1) := by decide +kernel
theorem dX7_comesBack_99 : decode cX7_comesBack 99 = .ok (.bastore, 1) := by decide +kernel
theorem dX7_comesBack_100 : decode cX7_comesBack 100 = .ok (.aload_n 0, 1) := by decide +kernel
theorem dX7_comesBack_101 : decode cX7_comesBack 101 = .ok (.getfield 13, 3) := by decide +kernel
theorem dX7_comesBack_104 : decode cX7_comesBack 104 = .ok (.aload_n 0, 1) := by decide +kernel
theorem dX7_comesBack_105 : decode cX7_comesBack 105 = .ok (.getfield 20, 3) := by decide +kernel
theorem dX7_comesBack_108 : decode cX7_comesBack 108 = .ok (.iload_n 2, 1) := by decide +kernel
theorem dX7_comesBack_109 : decode cX7_comesBack 109 = .ok (.iaload, 1) := by decide +kernel
theorem dX7_comesBack_110 : decode cX7_comesBack 110 = .ok (.dup2, 1) := by decide +kernel
theorem dX7_comesBack_111 : decode cX7_comesBack 111 = .ok (.iaload, 1) := by decide +kernel
theorem dX7_comesBack_112 : decode cX7_comesBack 112 = .ok (.iload_n 3, 1) := by decide +kernel
theorem dX7_comesBack_113 : decode cX7_comesBack 113 = .ok (.bipush 117, 2) := by decide +kernel
theorem dX7_comesBack_115 : decode cX7_comesBack 115 = .ok (.if_icmp .ne 7, 3) := by decide +kernel
theorem dX7_comesBack_118 : decode cX7_comesBack 118 = .ok (.iconst 1, 1) := by decide +kernel
theorem dX7_comesBack_119 : decode cX7_comesBack 119 = .ok (.goto 4, 3) := by decide +kernel
theorem dX7_comesBack_122 : decode cX7_comesBack 122 = .ok (.iconst 0, 1) := by decide +kernel
theorem dX7_comesBack_123 : decode cX7_comesBack 123 = .ok (.iadd, 1) := by decide +kernel
theorem dX7_comesBack_124 : decode cX7_comesBack 124 = .ok (.iastore, 1) := by decide +kernel
theorem dX7_comesBack_125 : decode cX7_comesBack 125 = .ok (.aload_n 0, 1) := by decide +kernel
theorem dX7_comesBack_126 : decode cX7_comesBack 126 = .ok (.getfield 26, 3) := by decide +kernel
theorem dX7_comesBack_129 : decode cX7_comesBack 129 = .ok (.iload_n 2, 1) := by decide +kernel
theorem dX7_comesBack_130 : decode cX7_comesBack 130 = .ok (.iload_n 3, 1) := by decide +kernel
theorem dX7_comesBack_131 : decode cX7_comesBack 131 = .ok (.bipush 117, 2) := by decide +kernel
theorem dX7_comesBack_133 : decode cX7_comesBack 133 = .ok (.if_icmp .ne 12, 3) := by decide +kernel
theorem dX7_comesBack_136 : decode cX7_comesBack 136 = .ok (.aload_n 0, 1) := by decide +kernel
theorem dX7_comesBack_137 : decode cX7_comesBack 137 = .ok (.getfield 26, 3) := by decide +kernel
theorem dX7_comesBack_140 : decode cX7_comesBack 140 = .ok (.iload_n 2, 1) := by decide +kernel
theorem dX7_comesBack_141 : decode cX7_comesBack 141 = .ok (.caload, 1) := by decide +kernel
theorem dX7_comesBack_142 : decode cX7_comesBack 142 = .ok (.goto 4, 3) := by decide +kernel
theorem dX7_comesBack_145 : decode cX7_comesBack 145 = .ok (.iload_n 3, 1) := by decide +kernel
theorem dX7_comesBack_146 : decode cX7_comesBack 146 = .ok (.castore, 1) := by decide +kernel
theorem dX7_comesBack_147 : decode cX7_comesBack 147 = .ok (.iconst 0, 1) := by decide +kernel
theorem dX7_comesBack_148 : decode cX7_comesBack 148 = .ok (.istore 5, 2) := by decide +kernel
theorem dX7_comesBack_150 : decode cX7_comesBack 150 = .ok (.iconst 0, 1) := by decide +kernel
theorem dX7_comesBack_151 : decode cX7_comesBack 151 = .ok (.istore 6, 2) := by decide +kernel
theorem dX7_comesBack_153 : decode cX7_comesBack 153 = .ok (.iload 6, 2) := by decide +kernel
theorem dX7_comesBack_155 : decode cX7_comesBack 155 = .ok (.aload_n 0, 1) := by decide +kernel
theorem dX7_comesBack_156 : decode cX7_comesBack 156 = .ok (.getfield 54, 3) := by decide +kernel
theorem dX7_comesBack_159 : decode cX7_comesBack 159 = .ok (.iload_n 1, 1) := by decide +kernel
theorem dX7_comesBack_160 : decode cX7_comesBack 160 = .ok (.iaload, 1) := by decide +kernel
theorem dX7_comesBack_161 : decode cX7_comesBack 161 = .ok (.if_icmp .ge 31, 3) := by decide +kernel
theorem dX7_comesBack_164 : decode cX7_comesBack 164 = .ok (.iload 5, 2) := by decide +kernel
theorem dX7_comesBack_166 : decode cX7_comesBack 166 = .ok (.aload_n 0, 1) := by decide +kernel
theorem dX7_comesBack_167 : decode cX7_comesBack 167 = .ok (.getfield 76, 3) := by decide +kernel
theorem dX7_comesBack_170 : decode cX7_comesBack 170 = .ok (.iload_n 1, 1) := by decide +kernel
theorem dX7_comesBack_171 : decode cX7_comesBack 171 = .ok (.aaload, 1) := by decide +kernel
theorem dX7_comesBack_172 : decode cX7_comesBack 172 = .ok (.iload 6, 2) := by decide +kernel
theorem dX7_comesBack_174 : decode cX7_comesBack 174 = .ok (.baload, 1) := by decide +kernel
theorem dX7_comesBack_175 : decode cX7_comesBack 175 = .ok (.ifCond .eq 7, 3) := by decide +kernel
theorem dX7_comesBack_178 : decode cX7_comesBack 178 = .ok (.iconst 1, 1) := by decide +kernel
theorem dX7_comesBack_179 : decode cX7_comesBack 179 = .ok (.goto 4, 3) := by decide +kernel
theorem dX7_comesBack_182 : decode cX7_comesBack 182 = .ok (.iconst 0, 1) := by decide +kernel
theorem dX7_comesBack_183 : decode cX7_comesBack 183 = .ok (.iadd, 1) := by decide +kernel
theorem dX7_comesBack_184 : decode cX7_comesBack 184 = .ok (.istore 5, 2) := by decide +kernel
theorem dX7_comesBack_186 : decode cX7_comesBack 186 = .ok (.iinc 6 1, 3) := by decide +kernel
theorem dX7_comesBack_189 : decode cX7_comesBack 189 = .ok (.goto (-36), 3) := by decide +kernel
theorem dX7_comesBack_192 : decode cX7_comesBack 192 = .ok (.iload 5, 2) := by decide +kernel
theorem dX7_comesBack_194 : decode cX7_comesBack 194 = .ok (.ireturn, 1) := by decide +kernel
theorem dX7_setBound_0 : decode cX7_setBound 0 = .ok (.aload_n 0, 1) := by decide +kernel
theorem dX7_setBound_1 : decode cX7_setBound 1 = .ok (.iload_n 1, 1) := by decide +kernel
theorem dX7_setBound_2 : decode cX7_setBound 2 = .ok (.iconst 1, 1) := by decide +kernel
theorem dX7_setBound_3 : decode cX7_setBound 3 = .ok (.bipush 24, 2) := by decide +kernel
theorem dX7_setBound_5 : decode cX7_setBound 5 = .ok (.invokestatic 85, 3) := by decide +kernel
theorem dX7_setBound_8 : decode cX7_setBound 8 = .ok (.ifCond .eq 7, 3) := by decide +kernel
theorem dX7_setBound_11 : decode cX7_setBound 11 = .ok (.iconst 0, 1) := by decide +kernel
theorem dX7_setBound_12 : decode cX7_setBound 12 = .ok (.goto 4, 3) := by decide +kernel
theorem dX7_setBound_15 : decode cX7_setBound 15 = .ok (.iconst 1, 1) := by decide +kernel
theorem dX7_setBound_16 : decode cX7_setBound 16 = .ok (.putfield 79, 3) := by decide +kernel
theorem dX7_setBound_19 : decode cX7_setBound 19 = .ok (.aload_n 0, 1) := by decide +kernel
theorem dX7_setBound_20 : decode cX7_setBound 20 = .ok (.getfield 79, 3) := by decide +kernel
theorem dX7_setBound_23 : decode cX7_setBound 23 = .ok (.ifCond .le 5, 3) := by decide +kernel
theorem dX7_setBound_26 : decode cX7_setBound 26 = .ok (.iconst 0, 1) := by decide +kernel
theorem dX7_setBound_27 : decode cX7_setBound 27 = .ok (.ireturn, 1) := by decide +kernel
theorem dX7_setBound_28 : decode cX7_setBound 28 = .ok (.aload_n 0, 1) := by decide +kernel
theorem dX7_setBound_29 : decode cX7_setBound 29 = .ok (.getfield 50, 3) := by decide +kernel
theorem dX7_setBound_32 : decode cX7_setBound 32 = .ok (.istore_n 2, 1) := by decide +kernel
theorem dX7_setBound_33 : decode cX7_setBound 33 = .ok (.aload_n 0, 1) := by decide +kernel
theorem dX7_setBound_34 : decode cX7_setBound 34 = .ok (.iload_n 1, 1) := by decide +kernel
theorem dX7_setBound_35 : decode cX7_setBound 35 = .ok (.putfield 50, 3) := by decide +kernel
theorem dX7_setBound_38 : decode cX7_setBound 38 = .ok (.iload_n 2, 1) := by decide +kernel
theorem dX7_setBound_39 : decode cX7_setBound 39 = .ok (.ireturn, 1) := by decide +kernel
theorem dX7_isLetter_0 : decode cX7_isLetter 0 = .ok (.aload_n 0, 1) := by decide +kernel
theorem dX7_isLetter_1 : decode cX7_isLetter 1 = .ok (.getfield 59, 3) := by decide +kernel
theorem dX7_isLetter_4 : decode cX7_isLetter 4 = .ok (.iload_n 1, 1) := by decide +kernel
theorem dX7_isLetter_5 : decode cX7_isLetter 5 = .ok (.aaload, 1) := by decide +kernel
theorem dX7_isLetter_6 : decode cX7_isLetter 6 = .ok (.iload_n 2, 1) := by decide +kernel
theorem dX7_isLetter_7 : decode cX7_isLetter 7 = .ok (.caload, 1) := by decide +kernel
theorem dX7_isLetter_8 : decode cX7_isLetter 8 = .ok (.bipush 108, 2) := by decide +kernel
theorem dX7_isLetter_10 : decode cX7_isLetter 10 = .ok (.if_icmp .ne 7, 3) := by decide +kernel
theorem dX7_isLetter_13 : decode cX7_isLetter 13 = .ok (.iconst 1, 1) := by decide +kernel
theorem dX7_isLetter_14 : decode cX7_isLetter 14 = .ok (.goto 4, 3) := by decide +kernel
theorem dX7_isLetter_17 : decode cX7_isLetter 17 = .ok (.iconst 0, 1) := by decide +kernel
theorem dX7_isLetter_18 : decode cX7_isLetter 18 = .ok (.ireturn, 1) := by decide +kernel
theorem dX7_letters_0 : decode cX7_letters 0 = .ok (.aload_n 0, 1) := by decide +kernel
theorem dX7_letters_1 : decode cX7_letters 1 = .ok (.aload_n 0, 1) := by decide +kernel
theorem dX7_letters_2 : decode cX7_letters 2 = .ok (.iload_n 1, 1) := by decide +kernel
theorem dX7_letters_3 : decode cX7_letters 3 = .ok (.invokevirtual 137, 3) := by decide +kernel
theorem dX7_letters_6 : decode cX7_letters 6 = .ok (.ifCond .eq 7, 3) := by decide +kernel
theorem dX7_letters_9 : decode cX7_letters 9 = .ok (.iconst 0, 1) := by decide +kernel
theorem dX7_letters_10 : decode cX7_letters 10 = .ok (.goto 4, 3) := by decide +kernel
theorem dX7_letters_13 : decode cX7_letters 13 = .ok (.iconst 1, 1) := by decide +kernel
theorem dX7_letters_14 : decode cX7_letters 14 = .ok (.putfield 79, 3) := by decide +kernel
theorem dX7_letters_17 : decode cX7_letters 17 = .ok (.iconst 0, 1) := by decide +kernel
theorem dX7_letters_18 : decode cX7_letters 18 = .ok (.istore_n 2, 1) := by decide +kernel
theorem dX7_letters_19 : decode cX7_letters 19 = .ok (.iconst 0, 1) := by decide +kernel
theorem dX7_letters_20 : decode cX7_letters 20 = .ok (.istore_n 3, 1) := by decide +kernel
theorem dX7_letters_21 : decode cX7_letters 21 = .ok (.aload_n 0, 1) := by decide +kernel
theorem dX7_letters_22 : decode cX7_letters 22 = .ok (.getfield 79, 3) := by decide +kernel
theorem dX7_letters_25 : decode cX7_letters 25 = .ok (.ifCond .ne 36, 3) := by decide +kernel
theorem dX7_letters_28 : decode cX7_letters 28 = .ok (.iload_n 3, 1) := by decide +kernel
theorem dX7_letters_29 : decode cX7_letters 29 = .ok (.aload_n 0, 1) := by decide +kernel
theorem dX7_letters_30 : decode cX7_letters 30 = .ok (.getfield 54, 3) := by decide +kernel
theorem dX7_letters_33 : decode cX7_letters 33 = .ok (.iload_n 1, 1) := by decide +kernel
theorem dX7_letters_34 : decode cX7_letters 34 = .ok (.iaload, 1) := by decide +kernel
theorem dX7_letters_35 : decode cX7_letters 35 = .ok (.if_icmp .ge 26, 3) := by decide +kernel
theorem dX7_letters_38 : decode cX7_letters 38 = .ok (.iload_n 2, 1) := by decide +kernel
theorem dX7_letters_39 : decode cX7_letters 39 = .ok (.aload_n 0, 1) := by decide +kernel
theorem dX7_letters_40 : decode cX7_letters 40 = .ok (.iload_n 1, 1) := by decide +kernel
theorem dX7_letters_41 : decode cX7_letters 41 = .ok (.iload_n 3, 1) := by decide +kernel
theorem dX7_letters_42 : decode cX7_letters 42 = .ok (.invokevirtual 147, 3) := by decide +kernel
theorem dX7_letters_45 : decode cX7_letters 45 = .ok (.ifCond .eq 7, 3) := by decide +kernel
theorem dX7_letters_48 : decode cX7_letters 48 = .ok (.iconst 1, 1) := by decide +kernel
theorem dX7_letters_49 : decode cX7_letters 49 = .ok (.goto 4, 3) := by decide +kernel
theorem dX7_letters_52 : decode cX7_letters 52 = .ok (.iconst 0, 1) := by decide +kernel
theorem dX7_letters_53 : decode cX7_letters 53 = .ok (.iadd, 1) := by decide +kernel
theorem dX7_letters_54 : decode cX7_letters 54 = .ok (.istore_n 2, 1) := by decide +kernel
theorem dX7_letters_55 : decode cX7_letters 55 = .ok (.iinc 3 1, 3) := by decide +kernel
theorem dX7_letters_58 : decode cX7_letters 58 = .ok (.goto (-37), 3) := by decide +kernel
theorem dX7_letters_61 : decode cX7_letters 61 = .ok (.iload_n 2, 1) := by decide +kernel
theorem dX7_letters_62 : decode cX7_letters 62 = .ok (.ireturn, 1) := by decide +kernel
theorem dX7_postedAt_0 : decode cX7_postedAt 0 = .ok (.aload_n 0, 1) := by decide +kernel
theorem dX7_postedAt_1 : decode cX7_postedAt 1 = .ok (.iload_n 1, 1) := by decide +kernel
theorem dX7_postedAt_2 : decode cX7_postedAt 2 = .ok (.invokevirtual 137, 3) := by decide +kernel
theorem dX7_postedAt_5 : decode cX7_postedAt 5 = .ok (.ifCond .ne 9, 3) := by decide +kernel
theorem dX7_postedAt_8 : decode cX7_postedAt 8 = .ok (.aload_n 0, 1) := by decide +kernel
theorem dX7_postedAt_9 : decode cX7_postedAt 9 = .ok (.iconst 1, 1) := by decide +kernel
theorem dX7_postedAt_10 : decode cX7_postedAt 10 = .ok (.invokevirtual 144, 3) := by decide +kernel
theorem dX7_postedAt_13 : decode cX7_postedAt 13 = .ok (.ireturn, 1) := by decide +kernel
theorem dX7_postedAt_14 : decode cX7_postedAt 14 = .ok (.iconst 0, 1) := by decide +kernel
theorem dX7_postedAt_15 : decode cX7_postedAt 15 = .ok (.istore_n 3, 1) := by decide +kernel
theorem dX7_postedAt_16 : decode cX7_postedAt 16 = .ok (.iload_n 3, 1) := by decide +kernel
theorem dX7_postedAt_17 : decode cX7_postedAt 17 = .ok (.aload_n 0, 1) := by decide +kernel
theorem dX7_postedAt_18 : decode cX7_postedAt 18 = .ok (.getfield 54, 3) := by decide +kernel
theorem dX7_postedAt_21 : decode cX7_postedAt 21 = .ok (.iload_n 1, 1) := by decide +kernel
theorem dX7_postedAt_22 : decode cX7_postedAt 22 = .ok (.iaload, 1) := by decide +kernel
theorem dX7_postedAt_23 : decode cX7_postedAt 23 = .ok (.if_icmp .ge 132, 3) := by decide +kernel
theorem dX7_postedAt_26 : decode cX7_postedAt 26 = .ok (.iconst 0, 1) := by decide +kernel
theorem dX7_postedAt_27 : decode cX7_postedAt 27 = .ok (.istore 4, 2) := by decide +kernel
theorem dX7_postedAt_29 : decode cX7_postedAt 29 = .ok (.iconst 0, 1) := by decide +kernel
theorem dX7_postedAt_30 : decode cX7_postedAt 30 = .ok (.istore 5, 2) := by decide +kernel
theorem dX7_postedAt_32 : decode cX7_postedAt 32 = .ok (.iload 5, 2) := by decide +kernel
theorem dX7_postedAt_34 : decode cX7_postedAt 34 = .ok (.aload_n 0, 1) := by decide +kernel
theorem dX7_postedAt_35 : decode cX7_postedAt 35 = .ok (.getfield 54, 3) := by decide +kernel
theorem dX7_postedAt_38 : decode cX7_postedAt 38 = .ok (.iload_n 1, 1) := by decide +kernel
theorem dX7_postedAt_39 : decode cX7_postedAt 39 = .ok (.iaload, 1) := by decide +kernel
theorem dX7_postedAt_40 : decode cX7_postedAt 40 = .ok (.if_icmp .ge 87, 3) := by decide +kernel
theorem dX7_postedAt_43 : decode cX7_postedAt 43 = .ok (.aload_n 0, 1) := by decide +kernel
theorem dX7_postedAt_44 : decode cX7_postedAt 44 = .ok (.getfield 65, 3) := by decide +kernel
theorem dX7_postedAt_47 : decode cX7_postedAt 47 = .ok (.iload_n 1, 1) := by decide +kernel
theorem dX7_postedAt_48 : decode cX7_postedAt 48 = .ok (.aaload, 1) := by decide +kernel
theorem dX7_postedAt_49 : decode cX7_postedAt 49 = .ok (.iload 5, 2) := by decide +kernel
theorem dX7_postedAt_51 : decode cX7_postedAt 51 = .ok (.iaload, 1) := by decide +kernel
theorem dX7_postedAt_52 : decode cX7_postedAt 52 = .ok (.aload_n 0, 1) := by decide +kernel
theorem dX7_postedAt_53 : decode cX7_postedAt 53 = .ok (.getfield 65, 3) := by decide +kernel
theorem dX7_postedAt_56 : decode cX7_postedAt 56 = .ok (.iload_n 1, 1) := by decide +kernel
theorem dX7_postedAt_57 : decode cX7_postedAt 57 = .ok (.aaload, 1) := by decide +kernel
theorem dX7_postedAt_58 : decode cX7_postedAt 58 = .ok (.iload_n 3, 1) := by decide +kernel
theorem dX7_postedAt_59 : decode cX7_postedAt 59 = .ok (.iaload, 1) := by decide +kernel
theorem dX7_postedAt_60 : decode cX7_postedAt 60 = .ok (.if_icmp .lt 29, 3) := by decide +kernel
theorem dX7_postedAt_63 : decode cX7_postedAt 63 = .ok (.aload_n 0, 1) := by decide +kernel
theorem dX7_postedAt_64 : decode cX7_postedAt 64 = .ok (.getfield 65, 3) := by decide +kernel
theorem dX7_postedAt_67 : decode cX7_postedAt 67 = .ok (.iload_n 1, 1) := by decide +kernel
theorem dX7_postedAt_68 : decode cX7_postedAt 68 = .ok (.aaload, 1) := by decide +kernel
theorem dX7_postedAt_69 : decode cX7_postedAt 69 = .ok (.iload 5, 2) := by decide +kernel
theorem dX7_postedAt_71 : decode cX7_postedAt 71 = .ok (.iaload, 1) := by decide +kernel
theorem dX7_postedAt_72 : decode cX7_postedAt 72 = .ok (.aload_n 0, 1) := by decide +kernel
theorem dX7_postedAt_73 : decode cX7_postedAt 73 = .ok (.getfield 65, 3) := by decide +kernel
theorem dX7_postedAt_76 : decode cX7_postedAt 76 = .ok (.iload_n 1, 1) := by decide +kernel
theorem dX7_postedAt_77 : decode cX7_postedAt 77 = .ok (.aaload, 1) := by decide +kernel
theorem dX7_postedAt_78 : decode cX7_postedAt 78 = .ok (.iload_n 3, 1) := by decide +kernel
theorem dX7_postedAt_79 : decode cX7_postedAt 79 = .ok (.iaload, 1) := by decide +kernel
theorem dX7_postedAt_80 : decode cX7_postedAt 80 = .ok (.if_icmp .ne 13, 3) := by decide +kernel
theorem dX7_postedAt_83 : decode cX7_postedAt 83 = .ok (.iload 5, 2) := by decide +kernel
theorem dX7_postedAt_85 : decode cX7_postedAt 85 = .ok (.iload_n 3, 1) := by decide +kernel
theorem dX7_postedAt_86 : decode cX7_postedAt 86 = .ok (.if_icmp .ge 7, 3) := by decide +kernel
theorem dX7_postedAt_89 : decode cX7_postedAt 89 = .ok (.iconst 1, 1) := by decide +kernel
theorem dX7_postedAt_90 : decode cX7_postedAt 90 = .ok (.goto 4, 3) := by decide +kernel
theorem dX7_postedAt_93 : decode cX7_postedAt 93 = .ok (.iconst 0, 1) := by decide +kernel
theorem dX7_postedAt_94 : decode cX7_postedAt 94 = .ok (.istore 6, 2) := by decide +kernel
theorem dX7_postedAt_96 : decode cX7_postedAt 96 = .ok (.iload 4, 2) := by decide +kernel
theorem dX7_postedAt_98 : decode cX7_postedAt 98 = .ok (.aload_n 0, 1) := by decide +kernel
theorem dX7_postedAt_99 : decode cX7_postedAt 99 = .ok (.iload_n 1, 1) := by decide +kernel
theorem dX7_postedAt_100 : decode cX7_postedAt 100 = .ok (.iload 5, 2) := by decide +kernel
theorem dX7_postedAt_102 : decode cX7_postedAt 102 = .ok (.invokevirtual 147, 3) := by decide +kernel
theorem dX7_postedAt_105 : decode cX7_postedAt 105 = .ok (.ifCond .eq 12, 3) := by decide +kernel
theorem dX7_postedAt_108 : decode cX7_postedAt 108 = .ok (.iload 6, 2) := by decide +kernel
theorem dX7_postedAt_110 : decode cX7_postedAt 110 = .ok (.ifCond .eq 7, 3) := by decide +kernel
theorem dX7_postedAt_113 : decode cX7_postedAt 113 = .ok (.iconst 1, 1) := by decide +kernel
theorem dX7_postedAt_114 : decode cX7_postedAt 114 = .ok (.goto 4, 3) := by decide +kernel
theorem dX7_postedAt_117 : decode cX7_postedAt 117 = .ok (.iconst 0, 1) := by decide +kernel
theorem dX7_postedAt_118 : decode cX7_postedAt 118 = .ok (.iadd, 1) := by decide +kernel
theorem dX7_postedAt_119 : decode cX7_postedAt 119 = .ok (.istore 4, 2) := by decide +kernel
theorem dX7_postedAt_121 : decode cX7_postedAt 121 = .ok (.iinc 5 1, 3) := by decide +kernel
theorem dX7_postedAt_124 : decode cX7_postedAt 124 = .ok (.goto (-92), 3) := by decide +kernel
theorem dX7_postedAt_127 : decode cX7_postedAt 127 = .ok (.aload_n 0, 1) := by decide +kernel
theorem dX7_postedAt_128 : decode cX7_postedAt 128 = .ok (.iload_n 1, 1) := by decide +kernel
theorem dX7_postedAt_129 : decode cX7_postedAt 129 = .ok (.iload_n 3, 1) := by decide +kernel
theorem dX7_postedAt_130 : decode cX7_postedAt 130 = .ok (.invokevirtual 147, 3) := by decide +kernel
theorem dX7_postedAt_133 : decode cX7_postedAt 133 = .ok (.ifCond .eq 16, 3) := by decide +kernel
theorem dX7_postedAt_136 : decode cX7_postedAt 136 = .ok (.iload 4, 2) := by decide +kernel
theorem dX7_postedAt_138 : decode cX7_postedAt 138 = .ok (.iload_n 2, 1) := by decide +kernel
theorem dX7_postedAt_139 : decode cX7_postedAt 139 = .ok (.if_icmp .ne 10, 3) := by decide +kernel
theorem dX7_postedAt_142 : decode cX7_postedAt 142 = .ok (.aload_n 0, 1) := by decide +kernel
theorem dX7_postedAt_143 : decode cX7_postedAt 143 = .ok (.iconst 0, 1) := by decide +kernel
theorem dX7_postedAt_144 : decode cX7_postedAt 144 = .ok (.putfield 79, 3) := by decide +kernel
theorem dX7_postedAt_147 : decode cX7_postedAt 147 = .ok (.iload_n 3, 1) := by decide +kernel
theorem dX7_postedAt_148 : decode cX7_postedAt 148 = .ok (.ireturn, 1) := by decide +kernel
theorem dX7_postedAt_149 : decode cX7_postedAt 149 = .ok (.iinc 3 1, 3) := by decide +kernel
theorem dX7_postedAt_152 : decode cX7_postedAt 152 = .ok (.goto (-136), 3) := by decide +kernel
theorem dX7_postedAt_155 : decode cX7_postedAt 155 = .ok (.aload_n 0, 1) := by decide +kernel
theorem dX7_postedAt_156 : decode cX7_postedAt 156 = .ok (.iconst 2, 1) := by decide +kernel
theorem dX7_postedAt_157 : decode cX7_postedAt 157 = .ok (.invokevirtual 144, 3) := by decide +kernel
theorem dX7_postedAt_160 : decode cX7_postedAt 160 = .ok (.ireturn, 1) := by decide +kernel
theorem dX7_onRoute_0 : decode cX7_onRoute 0 = .ok (.aload_n 0, 1) := by decide +kernel
theorem dX7_onRoute_1 : decode cX7_onRoute 1 = .ok (.aload_n 0, 1) := by decide +kernel
theorem dX7_onRoute_2 : decode cX7_onRoute 2 = .ok (.iload_n 1, 1) := by decide +kernel
theorem dX7_onRoute_3 : decode cX7_onRoute 3 = .ok (.invokevirtual 137, 3) := by decide +kernel
theorem dX7_onRoute_6 : decode cX7_onRoute 6 = .ok (.ifCond .ne 7, 3) := by decide +kernel
theorem dX7_onRoute_9 : decode cX7_onRoute 9 = .ok (.iconst 1, 1) := by decide +kernel
theorem dX7_onRoute_10 : decode cX7_onRoute 10 = .ok (.goto 18, 3) := by decide +kernel
theorem dX7_onRoute_13 : decode cX7_onRoute 13 = .ok (.iload_n 2, 1) := by decide +kernel
theorem dX7_onRoute_14 : decode cX7_onRoute 14 = .ok (.iconst 0, 1) := by decide +kernel
theorem dX7_onRoute_15 : decode cX7_onRoute 15 = .ok (.bipush 9, 2) := by decide +kernel
theorem dX7_onRoute_17 : decode cX7_onRoute 17 = .ok (.invokestatic 85, 3) := by decide +kernel
theorem dX7_onRoute_20 : decode cX7_onRoute 20 = .ok (.ifCond .ne 7, 3) := by decide +kernel
theorem dX7_onRoute_23 : decode cX7_onRoute 23 = .ok (.iconst 2, 1) := by decide +kernel
theorem dX7_onRoute_24 : decode cX7_onRoute 24 = .ok (.goto 4, 3) := by decide +kernel
theorem dX7_onRoute_27 : decode cX7_onRoute 27 = .ok (.iconst 0, 1) := by decide +kernel
theorem dX7_onRoute_28 : decode cX7_onRoute 28 = .ok (.putfield 79, 3) := by decide +kernel
theorem dX7_onRoute_31 : decode cX7_onRoute 31 = .ok (.iconst 0, 1) := by decide +kernel
theorem dX7_onRoute_32 : decode cX7_onRoute 32 = .ok (.istore_n 3, 1) := by decide +kernel
theorem dX7_onRoute_33 : decode cX7_onRoute 33 = .ok (.iconst 0, 1) := by decide +kernel
theorem dX7_onRoute_34 : decode cX7_onRoute 34 = .ok (.istore 4, 2) := by decide +kernel
theorem dX7_onRoute_36 : decode cX7_onRoute 36 = .ok (.aload_n 0, 1) := by decide +kernel
theorem dX7_onRoute_37 : decode cX7_onRoute 37 = .ok (.getfield 79, 3) := by decide +kernel
theorem dX7_onRoute_40 : decode cX7_onRoute 40 = .ok (.ifCond .ne 54, 3) := by decide +kernel
theorem dX7_onRoute_43 : decode cX7_onRoute 43 = .ok (.iload 4, 2) := by decide +kernel
theorem dX7_onRoute_45 : decode cX7_onRoute 45 = .ok (.aload_n 0, 1) := by decide +kernel
theorem dX7_onRoute_46 : decode cX7_onRoute 46 = .ok (.getfield 54, 3) := by decide +kernel
theorem dX7_onRoute_49 : decode cX7_onRoute 49 = .ok (.iload_n 1, 1) := by decide +kernel
theorem dX7_onRoute_50 : decode cX7_onRoute 50 = .ok (.iaload, 1) := by decide +kernel
theorem dX7_onRoute_51 : decode cX7_onRoute 51 = .ok (.if_icmp .ge 43, 3) := by decide +kernel
theorem dX7_onRoute_54 : decode cX7_onRoute 54 = .ok (.iload_n 3, 1) := by decide +kernel
theorem dX7_onRoute_55 : decode cX7_onRoute 55 = .ok (.aload_n 0, 1) := by decide +kernel
theorem dX7_onRoute_56 : decode cX7_onRoute 56 = .ok (.iload_n 1, 1) := by decide +kernel
theorem dX7_onRoute_57 : decode cX7_onRoute 57 = .ok (.iload 4, 2) := by decide +kernel
theorem dX7_onRoute_59 : decode cX7_onRoute 59 = .ok (.invokevirtual 147, 3) := by decide +kernel
theorem dX7_onRoute_62 : decode cX7_onRoute 62 = .ok (.ifCond .eq 23, 3) := by decide +kernel
theorem dX7_onRoute_65 : decode cX7_onRoute 65 = .ok (.aload_n 0, 1) := by decide +kernel
theorem dX7_onRoute_66 : decode cX7_onRoute 66 = .ok (.getfield 65, 3) := by decide +kernel
theorem dX7_onRoute_69 : decode cX7_onRoute 69 = .ok (.iload_n 1, 1) := by decide +kernel
theorem dX7_onRoute_70 : decode cX7_onRoute 70 = .ok (.aaload, 1) := by decide +kernel
theorem dX7_onRoute_71 : decode cX7_onRoute 71 = .ok (.iload 4, 2) := by decide +kernel
theorem dX7_onRoute_73 : decode cX7_onRoute 73 = .ok (.iaload, 1) := by decide +kernel
theorem dX7_onRoute_74 : decode cX7_onRoute 74 = .ok (.bipush 10, 2) := by decide +kernel
theorem dX7_onRoute_76 : decode cX7_onRoute 76 = .ok (.idiv, 1) := by decide +kernel
theorem dX7_onRoute_77 : decode cX7_onRoute 77 = .ok (.iload_n 2, 1) := by decide +kernel
theorem dX7_onRoute_78 : decode cX7_onRoute 78 = .ok (.if_icmp .ne 7, 3) := by decide +kernel
theorem dX7_onRoute_81 : decode cX7_onRoute 81 = .ok (.iconst 1, 1) := by decide +kernel
theorem dX7_onRoute_82 : decode cX7_onRoute 82 = .ok (.goto 4, 3) := by decide +kernel
theorem dX7_onRoute_85 : decode cX7_onRoute 85 = .ok (.iconst 0, 1) := by decide +kernel
theorem dX7_onRoute_86 : decode cX7_onRoute 86 = .ok (.iadd, 1) := by decide +kernel
theorem dX7_onRoute_87 : decode cX7_onRoute 87 = .ok (.istore_n 3, 1) := by decide +kernel
theorem dX7_onRoute_88 : decode cX7_onRoute 88 = .ok (.iinc 4 1, 3) := by decide +kernel
theorem dX7_onRoute_91 : decode cX7_onRoute 91 = .ok (.goto (-55), 3) := by decide +kernel
theorem dX7_onRoute_94 : decode cX7_onRoute 94 = .ok (.iload_n 3, 1) := by decide +kernel
theorem dX7_onRoute_95 : decode cX7_onRoute 95 = .ok (.ireturn, 1) := by decide +kernel
theorem dX7_postage_0 : decode cX7_postage 0 = .ok (.aload_n 0, 1) := by decide +kernel
theorem dX7_postage_1 : decode cX7_postage 1 = .ok (.iload_n 1, 1) := by decide +kernel
theorem dX7_postage_2 : decode cX7_postage 2 = .ok (.iload_n 2, 1) := by decide +kernel
theorem dX7_postage_3 : decode cX7_postage 3 = .ok (.invokevirtual 140, 3) := by decide +kernel
theorem dX7_postage_6 : decode cX7_postage 6 = .ok (.ifCond .ne 9, 3) := by decide +kernel
theorem dX7_postage_9 : decode cX7_postage 9 = .ok (.aload_n 0, 1) := by decide +kernel
theorem dX7_postage_10 : decode cX7_postage 10 = .ok (.iconst 1, 1) := by decide +kernel
theorem dX7_postage_11 : decode cX7_postage 11 = .ok (.invokevirtual 144, 3) := by decide +kernel
theorem dX7_postage_14 : decode cX7_postage 14 = .ok (.ireturn, 1) := by decide +kernel
theorem dX7_postage_15 : decode cX7_postage 15 = .ok (.aload_n 0, 1) := by decide +kernel
theorem dX7_postage_16 : decode cX7_postage 16 = .ok (.aload_n 0, 1) := by decide +kernel
theorem dX7_postage_17 : decode cX7_postage 17 = .ok (.iload_n 1, 1) := by decide +kernel
theorem dX7_postage_18 : decode cX7_postage 18 = .ok (.iload_n 2, 1) := by decide +kernel
theorem dX7_postage_19 : decode cX7_postage 19 = .ok (.invokevirtual 147, 3) := by decide +kernel
theorem dX7_postage_22 : decode cX7_postage 22 = .ok (.ifCond .eq 7, 3) := by decide +kernel
theorem dX7_postage_25 : decode cX7_postage 25 = .ok (.iconst 0, 1) := by decide +kernel
theorem dX7_postage_26 : decode cX7_postage 26 = .ok (.goto 4, 3) := by decide +kernel
theorem dX7_postage_29 : decode cX7_postage 29 = .ok (.iconst 2, 1) := by decide +kernel
theorem dX7_postage_30 : decode cX7_postage 30 = .ok (.putfield 79, 3) := by decide +kernel
theorem dX7_postage_33 : decode cX7_postage 33 = .ok (.aload_n 0, 1) := by decide +kernel
theorem dX7_postage_34 : decode cX7_postage 34 = .ok (.getfield 79, 3) := by decide +kernel
theorem dX7_postage_37 : decode cX7_postage 37 = .ok (.ifCond .le 7, 3) := by decide +kernel
theorem dX7_postage_40 : decode cX7_postage 40 = .ok (.iconst 0, 1) := by decide +kernel
theorem dX7_postage_41 : decode cX7_postage 41 = .ok (.goto 11, 3) := by decide +kernel
theorem dX7_postage_44 : decode cX7_postage 44 = .ok (.aload_n 0, 1) := by decide +kernel
theorem dX7_postage_45 : decode cX7_postage 45 = .ok (.getfield 71, 3) := by decide +kernel
theorem dX7_postage_48 : decode cX7_postage 48 = .ok (.iload_n 1, 1) := by decide +kernel
theorem dX7_postage_49 : decode cX7_postage 49 = .ok (.aaload, 1) := by decide +kernel
theorem dX7_postage_50 : decode cX7_postage 50 = .ok (.iload_n 2, 1) := by decide +kernel
theorem dX7_postage_51 : decode cX7_postage 51 = .ok (.iaload, 1) := by decide +kernel
theorem dX7_postage_52 : decode cX7_postage 52 = .ok (.ireturn, 1) := by decide +kernel
theorem dX7_costOf_0 : decode cX7_costOf 0 = .ok (.aload_n 0, 1) := by decide +kernel
theorem dX7_costOf_1 : decode cX7_costOf 1 = .ok (.aload_n 0, 1) := by decide +kernel
theorem dX7_costOf_2 : decode cX7_costOf 2 = .ok (.iload_n 1, 1) := by decide +kernel
theorem dX7_costOf_3 : decode cX7_costOf 3 = .ok (.invokevirtual 137, 3) := by decide +kernel
theorem dX7_costOf_6 : decode cX7_costOf 6 = .ok (.ifCond .eq 7, 3) := by decide +kernel
theorem dX7_costOf_9 : decode cX7_costOf 9 = .ok (.iconst 0, 1) := by decide +kernel
theorem dX7_costOf_10 : decode cX7_costOf 10 = .ok (.goto 4, 3) := by decide +kernel
theorem dX7_costOf_13 : decode cX7_costOf 13 = .ok (.iconst 1, 1) := by decide +kernel
theorem dX7_costOf_14 : decode cX7_costOf 14 = .ok (.putfield 79, 3) := by decide +kernel
theorem dX7_costOf_17 : decode cX7_costOf 17 = .ok (.lconst 0, 1) := by decide +kernel
theorem dX7_costOf_18 : decode cX7_costOf 18 = .ok (.lstore_n 2, 1) := by decide +kernel
theorem dX7_costOf_19 : decode cX7_costOf 19 = .ok (.iconst 0, 1) := by decide +kernel
theorem dX7_costOf_20 : decode cX7_costOf 20 = .ok (.istore 4, 2) := by decide +kernel
theorem dX7_costOf_22 : decode cX7_costOf 22 = .ok (.aload_n 0, 1) := by decide +kernel
theorem dX7_costOf_23 : decode cX7_costOf 23 = .ok (.getfield 79, 3) := by decide +kernel
theorem dX7_costOf_26 : decode cX7_costOf 26 = .ok (.ifCond .ne 47, 3) := by decide +kernel
theorem dX7_costOf_29 : decode cX7_costOf 29 = .ok (.iload 4, 2) := by decide +kernel
theorem dX7_costOf_31 : decode cX7_costOf 31 = .ok (.aload_n 0, 1) := by decide +kernel
theorem dX7_costOf_32 : decode cX7_costOf 32 = .ok (.getfield 54, 3) := by decide +kernel
theorem dX7_costOf_35 : decode cX7_costOf 35 = .ok (.iload_n 1, 1) := by decide +kernel
theorem dX7_costOf_36 : decode cX7_costOf 36 = .ok (.iaload, 1) := by decide +kernel
theorem dX7_costOf_37 : decode cX7_costOf 37 = .ok (.if_icmp .ge 36, 3) := by decide +kernel
theorem dX7_costOf_40 : decode cX7_costOf 40 = .ok (.lload_n 2, 1) := by decide +kernel
theorem dX7_costOf_41 : decode cX7_costOf 41 = .ok (.aload_n 0, 1) := by decide +kernel
theorem dX7_costOf_42 : decode cX7_costOf 42 = .ok (.iload_n 1, 1) := by decide +kernel
theorem dX7_costOf_43 : decode cX7_costOf 43 = .ok (.iload 4, 2) := by decide +kernel
theorem dX7_costOf_45 : decode cX7_costOf 45 = .ok (.invokevirtual 147, 3) := by decide +kernel
theorem dX7_costOf_48 : decode cX7_costOf 48 = .ok (.ifCond .eq 16, 3) := by decide +kernel
theorem dX7_costOf_51 : decode cX7_costOf 51 = .ok (.aload_n 0, 1) := by decide +kernel
theorem dX7_costOf_52 : decode cX7_costOf 52 = .ok (.getfield 71, 3) := by decide +kernel
theorem dX7_costOf_55 : decode cX7_costOf 55 = .ok (.iload_n 1, 1) := by decide +kernel
theorem dX7_costOf_56 : decode cX7_costOf 56 = .ok (.aaload, 1) := by decide +kernel
theorem dX7_costOf_57 : decode cX7_costOf 57 = .ok (.iload 4, 2) := by decide +kernel
theorem dX7_costOf_59 : decode cX7_costOf 59 = .ok (.iaload, 1) := by decide +kernel
theorem dX7_costOf_60 : decode cX7_costOf 60 = .ok (.i2l, 1) := by decide +kernel
theorem dX7_costOf_61 : decode cX7_costOf 61 = .ok (.goto 4, 3) := by decide +kernel
theorem dX7_costOf_64 : decode cX7_costOf 64 = .ok (.lconst 0, 1) := by decide +kernel
theorem dX7_costOf_65 : decode cX7_costOf 65 = .ok (.ladd, 1) := by decide +kernel
theorem dX7_costOf_66 : decode cX7_costOf 66 = .ok (.lstore_n 2, 1) := by decide +kernel
theorem dX7_costOf_67 : decode cX7_costOf 67 = .ok (.iinc 4 1, 3) := by decide +kernel
theorem dX7_costOf_70 : decode cX7_costOf 70 = .ok (.goto (-48), 3) := by decide +kernel
theorem dX7_costOf_73 : decode cX7_costOf 73 = .ok (.lload_n 2, 1) := by decide +kernel
theorem dX7_costOf_74 : decode cX7_costOf 74 = .ok (.lreturn, 1) := by decide +kernel
theorem dX7_proofAt_0 : decode cX7_proofAt 0 = .ok (.aload_n 0, 1) := by decide +kernel
theorem dX7_proofAt_1 : decode cX7_proofAt 1 = .ok (.iload_n 1, 1) := by decide +kernel
theorem dX7_proofAt_2 : decode cX7_proofAt 2 = .ok (.invokevirtual 137, 3) := by decide +kernel
theorem dX7_proofAt_5 : decode cX7_proofAt 5 = .ok (.ifCond .ne 9, 3) := by decide +kernel
theorem dX7_proofAt_8 : decode cX7_proofAt 8 = .ok (.aload_n 0, 1) := by decide +kernel
theorem dX7_proofAt_9 : decode cX7_proofAt 9 = .ok (.iconst 1, 1) := by decide +kernel
theorem dX7_proofAt_10 : decode cX7_proofAt 10 = .ok (.invokevirtual 144, 3) := by decide +kernel
theorem dX7_proofAt_13 : decode cX7_proofAt 13 = .ok (.ireturn, 1) := by decide +kernel
theorem dX7_proofAt_14 : decode cX7_proofAt 14 = .ok (.iconst 0, 1) := by decide +kernel
theorem dX7_proofAt_15 : decode cX7_proofAt 15 = .ok (.istore_n 3, 1) := by decide +kernel
theorem dX7_proofAt_16 : decode cX7_proofAt 16 = .ok (.iconst 0, 1) := by decide +kernel
theorem dX7_proofAt_17 : decode cX7_proofAt 17 = .ok (.istore 4, 2) := by decide +kernel
theorem dX7_proofAt_19 : decode cX7_proofAt 19 = .ok (.iconst 0, 1) := by decide +kernel
theorem dX7_proofAt_20 : decode cX7_proofAt 20 = .ok (.istore 5, 2) := by decide +kernel
theorem dX7_proofAt_22 : decode cX7_proofAt 22 = .ok (.iload 5, 2) := by decide +kernel
theorem dX7_proofAt_24 : decode cX7_proofAt 24 = .ok (.iconst (-1), 1) := by decide +kernel
theorem dX7_proofAt_25 : decode cX7_proofAt 25 = .ok (.if_icmp .eq 134, 3) := by decide +kernel
theorem dX7_proofAt_28 : decode cX7_proofAt 28 = .ok (.iconst (-1), 1) := by decide +kernel
theorem dX7_proofAt_29 : decode cX7_proofAt 29 = .ok (.istore 5, 2) := by decide +kernel
theorem dX7_proofAt_31 : decode cX7_proofAt 31 = .ok (.iconst 0, 1) := by decide +kernel
theorem dX7_proofAt_32 : decode cX7_proofAt 32 = .ok (.istore 6, 2) := by decide +kernel
theorem dX7_proofAt_34 : decode cX7_proofAt 34 = .ok (.iconst 0, 1) := by decide +kernel
theorem dX7_proofAt_35 : decode cX7_proofAt 35 = .ok (.istore 7, 2) := by decide +kernel
theorem dX7_proofAt_37 : decode cX7_proofAt 37 = .ok (.iload 7, 2) := by decide +kernel
theorem dX7_proofAt_39 : decode cX7_proofAt 39 = .ok (.aload_n 0, 1) := by decide +kernel
theorem dX7_proofAt_40 : decode cX7_proofAt 40 = .ok (.getfield 54, 3) := by decide +kernel
theorem dX7_proofAt_43 : decode cX7_proofAt 43 = .ok (.iload_n 1, 1) := by decide +kernel
theorem dX7_proofAt_44 : decode cX7_proofAt 44 = .ok (.iaload, 1) := by decide +kernel
theorem dX7_proofAt_45 : decode cX7_proofAt 45 = .ok (.if_icmp .ge 66, 3) := by decide +kernel
theorem dX7_proofAt_48 : decode cX7_proofAt 48 = .ok (.aload_n 0, 1) := by decide +kernel
theorem dX7_proofAt_49 : decode cX7_proofAt 49 = .ok (.iload_n 1, 1) := by decide +kernel
theorem dX7_proofAt_50 : decode cX7_proofAt 50 = .ok (.iload 7, 2) := by decide +kernel
theorem dX7_proofAt_52 : decode cX7_proofAt 52 = .ok (.invokevirtual 147, 3) := by decide +kernel
theorem dX7_proofAt_55 : decode cX7_proofAt 55 = .ok (.ifCond .eq 22, 3) := by decide +kernel
theorem dX7_proofAt_58 : decode cX7_proofAt 58 = .ok (.aload_n 0, 1) := by decide +kernel
theorem dX7_proofAt_59 : decode cX7_proofAt 59 = .ok (.getfield 68, 3) := by decide +kernel
theorem dX7_proofAt_62 : decode cX7_proofAt 62 = .ok (.iload_n 1, 1) := by decide +kernel
theorem dX7_proofAt_63 : decode cX7_proofAt 63 = .ok (.aaload, 1) := by decide +kernel
theorem dX7_proofAt_64 : decode cX7_proofAt 64 = .ok (.iload 7, 2) := by decide +kernel
theorem dX7_proofAt_66 : decode cX7_proofAt 66 = .ok (.iaload, 1) := by decide +kernel
theorem dX7_proofAt_67 : decode cX7_proofAt 67 = .ok (.iload_n 3, 1) := by decide +kernel
theorem dX7_proofAt_68 : decode cX7_proofAt 68 = .ok (.iconst (-1), 1) := by decide +kernel
theorem dX7_proofAt_69 : decode cX7_proofAt 69 = .ok (.ixor, 1) := by decide +kernel
theorem dX7_proofAt_70 : decode cX7_proofAt 70 = .ok (.iand, 1) := by decide +kernel
theorem dX7_proofAt_71 : decode cX7_proofAt 71 = .ok (.invokestatic 150, 3) := by decide +kernel
theorem dX7_proofAt_74 : decode cX7_proofAt 74 = .ok (.goto 4, 3) := by decide +kernel
theorem dX7_proofAt_77 : decode cX7_proofAt 77 = .ok (.iconst 0, 1) := by decide +kernel
theorem dX7_proofAt_78 : decode cX7_proofAt 78 = .ok (.istore 8, 2) := by decide +kernel
theorem dX7_proofAt_80 : decode cX7_proofAt 80 = .ok (.iload 8, 2) := by decide +kernel
theorem dX7_proofAt_82 : decode cX7_proofAt 82 = .ok (.iload 6, 2) := by decide +kernel
theorem dX7_proofAt_84 : decode cX7_proofAt 84 = .ok (.if_icmp .le 8, 3) := by decide +kernel
theorem dX7_proofAt_87 : decode cX7_proofAt 87 = .ok (.iload 7, 2) := by decide +kernel
theorem dX7_proofAt_89 : decode cX7_proofAt 89 = .ok (.goto 5, 3) := by decide +kernel
theorem dX7_proofAt_92 : decode cX7_proofAt 92 = .ok (.iload 5, 2) := by decide +kernel
theorem dX7_proofAt_94 : decode cX7_proofAt 94 = .ok (.istore 5, 2) := by decide +kernel
theorem dX7_proofAt_96 : decode cX7_proofAt 96 = .ok (.iload 6, 2) := by decide +kernel
theorem dX7_proofAt_98 : decode cX7_proofAt 98 = .ok (.iload 8, 2) := by decide +kernel
theorem dX7_proofAt_100 : decode cX7_proofAt 100 = .ok (.invokestatic 155, 3) := by decide +kernel
theorem dX7_proofAt_103 : decode cX7_proofAt 103 = .ok (.istore 6, 2) := by decide +kernel
theorem dX7_proofAt_105 : decode cX7_proofAt 105 = .ok (.iinc 7 1, 3) := by decide +kernel
theorem dX7_proofAt_108 : decode cX7_proofAt 108 = .ok (.goto (-71), 3) := by decide +kernel
theorem dX7_proofAt_111 : decode cX7_proofAt 111 = .ok (.iload 5, 2) := by decide +kernel
theorem dX7_proofAt_113 : decode cX7_proofAt 113 = .ok (.iconst (-1), 1) := by decide +kernel
theorem dX7_proofAt_114 : decode cX7_proofAt 114 = .ok (.if_icmp .eq 17, 3) := by decide +kernel
theorem dX7_proofAt_117 : decode cX7_proofAt 117 = .ok (.iload 4, 2) := by decide +kernel
theorem dX7_proofAt_119 : decode cX7_proofAt 119 = .ok (.iload_n 2, 1) := by decide +kernel
theorem dX7_proofAt_120 : decode cX7_proofAt 120 = .ok (.if_icmp .ne 11, 3) := by decide +kernel
theorem dX7_proofAt_123 : decode cX7_proofAt 123 = .ok (.aload_n 0, 1) := by decide +kernel
theorem dX7_proofAt_124 : decode cX7_proofAt 124 = .ok (.iconst 0, 1) := by decide +kernel
theorem dX7_proofAt_125 : decode cX7_proofAt 125 = .ok (.putfield 79, 3) := by decide +kernel
theorem dX7_proofAt_128 : decode cX7_proofAt 128 = .ok (.iload 5, 2) := by decide +kernel
theorem dX7_proofAt_130 : decode cX7_proofAt 130 = .ok (.ireturn, 1) := by decide +kernel
theorem dX7_proofAt_131 : decode cX7_proofAt 131 = .ok (.iload_n 3, 1) := by decide +kernel
theorem dX7_proofAt_132 : decode cX7_proofAt 132 = .ok (.iload 5, 2) := by decide +kernel
theorem dX7_proofAt_134 : decode cX7_proofAt 134 = .ok (.iconst (-1), 1) := by decide +kernel
theorem dX7_proofAt_135 : decode cX7_proofAt 135 = .ok (.if_icmp .ne 7, 3) := by decide +kernel
theorem dX7_proofAt_138 : decode cX7_proofAt 138 = .ok (.iconst 0, 1) := by decide +kernel
theorem dX7_proofAt_139 : decode cX7_proofAt 139 = .ok (.goto 12, 3) := by decide +kernel
theorem dX7_proofAt_142 : decode cX7_proofAt 142 = .ok (.aload_n 0, 1) := by decide +kernel
theorem dX7_proofAt_143 : decode cX7_proofAt 143 = .ok (.getfield 68, 3) := by decide +kernel
theorem dX7_proofAt_146 : decode cX7_proofAt 146 = .ok (.iload_n 1, 1) := by decide +kernel
theorem dX7_proofAt_147 : decode cX7_proofAt 147 = .ok (.aaload, 1) := by decide +kernel
theorem dX7_proofAt_148 : decode cX7_proofAt 148 = .ok (.iload 5, 2) := by decide +kernel
theorem dX7_proofAt_150 : decode cX7_proofAt 150 = .ok (.iaload, 1) := by decide +kernel
theorem dX7_proofAt_151 : decode cX7_proofAt 151 = .ok (.ior, 1) := by decide +kernel
theorem dX7_proofAt_152 : decode cX7_proofAt 152 = .ok (.istore_n 3, 1) := by decide +kernel
theorem dX7_proofAt_153 : decode cX7_proofAt 153 = .ok (.iinc 4 1, 3) := by decide +kernel
theorem dX7_proofAt_156 : decode cX7_proofAt 156 = .ok (.goto (-134), 3) := by decide +kernel
theorem dX7_proofAt_159 : decode cX7_proofAt 159 = .ok (.aload_n 0, 1) := by decide +kernel
theorem dX7_proofAt_160 : decode cX7_proofAt 160 = .ok (.iconst 2, 1) := by decide +kernel
theorem dX7_proofAt_161 : decode cX7_proofAt 161 = .ok (.invokevirtual 144, 3) := by decide +kernel
theorem dX7_proofAt_164 : decode cX7_proofAt 164 = .ok (.ireturn, 1) := by decide +kernel
theorem dX7_returnShare_0 : decode cX7_returnShare 0 = .ok (.iconst 0, 1) := by decide +kernel
theorem dX7_returnShare_1 : decode cX7_returnShare 1 = .ok (.istore_n 1, 1) := by decide +kernel
theorem dX7_returnShare_2 : decode cX7_returnShare 2 = .ok (.iconst 0, 1) := by decide +kernel
theorem dX7_returnShare_3 : decode cX7_returnShare 3 = .ok (.istore_n 2, 1) := by decide +kernel
theorem dX7_returnShare_4 : decode cX7_returnShare 4 = .ok (.iconst 0, 1) := by decide +kernel
theorem dX7_returnShare_5 : decode cX7_returnShare 5 = .ok (.istore_n 3, 1) := by decide +kernel
theorem dX7_returnShare_6 : decode cX7_returnShare 6 = .ok (.iload_n 3, 1) := by decide +kernel
theorem dX7_returnShare_7 : decode cX7_returnShare 7 = .ok (.aload_n 0, 1) := by decide +kernel
theorem dX7_returnShare_8 : decode cX7_returnShare 8 = .ok (.getfield 95, 3) := by decide +kernel
theorem dX7_returnShare_11 : decode cX7_returnShare 11 = .ok (.if_icmp .ge 67, 3) := by decide +kernel
theorem dX7_returnShare_14 : decode cX7_returnShare 14 = .ok (.iconst 0, 1) := by decide +kernel
theorem dX7_returnShare_15 : decode cX7_returnShare 15 = .ok (.istore 4, 2) := by decide +kernel
theorem dX7_returnShare_17 : decode cX7_returnShare 17 = .ok (.iload 4, 2) := by decide +kernel
theorem dX7_returnShare_19 : decode cX7_returnShare 19 = .ok (.aload_n 0, 1) := by decide +kernel
theorem dX7_returnShare_20 : decode cX7_returnShare 20 = .ok (.getfield 54, 3) := by decide +kernel
theorem dX7_returnShare_23 : decode cX7_returnShare 23 = .ok (.iload_n 3, 1) := by decide +kernel
theorem dX7_returnShare_24 : decode cX7_returnShare 24 = .ok (.iaload, 1) := by decide +kernel
theorem dX7_returnShare_25 : decode cX7_returnShare 25 = .ok (.if_icmp .ge 47, 3) := by decide +kernel
theorem dX7_returnShare_28 : decode cX7_returnShare 28 = .ok (.iload_n 1, 1) := by decide +kernel
theorem dX7_returnShare_29 : decode cX7_returnShare 29 = .ok (.aload_n 0, 1) := by decide +kernel
theorem dX7_returnShare_30 : decode cX7_returnShare 30 = .ok (.iload_n 3, 1) := by decide +kernel
theorem dX7_returnShare_31 : decode cX7_returnShare 31 = .ok (.iload 4, 2) := by decide +kernel
theorem dX7_returnShare_33 : decode cX7_returnShare 33 = .ok (.invokevirtual 147, 3) := by decide +kernel
theorem dX7_returnShare_36 : decode cX7_returnShare 36 = .ok (.ifCond .eq 7, 3) := by decide +kernel
theorem dX7_returnShare_39 : decode cX7_returnShare 39 = .ok (.iconst 1, 1) := by decide +kernel
theorem dX7_returnShare_40 : decode cX7_returnShare 40 = .ok (.goto 4, 3) := by decide +kernel
theorem dX7_returnShare_43 : decode cX7_returnShare 43 = .ok (.iconst 0, 1) := by decide +kernel
theorem dX7_returnShare_44 : decode cX7_returnShare 44 = .ok (.iadd, 1) := by decide +kernel
theorem dX7_returnShare_45 : decode cX7_returnShare 45 = .ok (.istore_n 1, 1) := by decide +kernel
theorem dX7_returnShare_46 : decode cX7_returnShare 46 = .ok (.iload_n 2, 1) := by decide +kernel
theorem dX7_returnShare_47 : decode cX7_returnShare 47 = .ok (.aload_n 0, 1) := by decide +kernel
theorem dX7_returnShare_48 : decode cX7_returnShare 48 = .ok (.getfield 76, 3) := by decide +kernel
theorem dX7_returnShare_51 : decode cX7_returnShare 51 = .ok (.iload_n 3, 1) := by decide +kernel
theorem dX7_returnShare_52 : decode cX7_returnShare 52 = .ok (.aaload, 1) := by decide +kernel
theorem dX7_returnShare_53 : decode cX7_returnShare 53 = .ok (.iload 4, 2) := by decide +kernel
theorem dX7_returnShare_55 : decode cX7_returnShare 55 = .ok (.baload, 1) := by decide +kernel
theorem dX7_returnShare_56 : decode cX7_returnShare 56 = .ok (.ifCond .eq 7, 3) := by decide +kernel
theorem dX7_returnShare_59 : decode cX7_returnShare 59 = .ok (.iconst 1, 1) := by decide +kernel
theorem dX7_returnShare_60 : decode cX7_returnShare 60 = .ok (.goto 4, 3) := by decide +kernel
theorem dX7_returnShare_63 : decode cX7_returnShare 63 = .ok (.iconst 0, 1) := by decide +kernel
theorem dX7_returnShare_64 : decode cX7_returnShare 64 = .ok (.iadd, 1) := by decide +kernel
theorem dX7_returnShare_65 : decode cX7_returnShare 65 = .ok (.istore_n 2, 1) := by decide +kernel
theorem dX7_returnShare_66 : decode cX7_returnShare 66 = .ok (.iinc 4 1, 3) := by decide +kernel
theorem dX7_returnShare_69 : decode cX7_returnShare 69 = .ok (.goto (-52), 3) := by decide +kernel
theorem dX7_returnShare_72 : decode cX7_returnShare 72 = .ok (.iinc 3 1, 3) := by decide +kernel
theorem dX7_returnShare_75 : decode cX7_returnShare 75 = .ok (.goto (-69), 3) := by decide +kernel
theorem dX7_returnShare_78 : decode cX7_returnShare 78 = .ok (.aload_n 0, 1) := by decide +kernel
theorem dX7_returnShare_79 : decode cX7_returnShare 79 = .ok (.iload_n 1, 1) := by decide +kernel
theorem dX7_returnShare_80 : decode cX7_returnShare 80 = .ok (.ifCond .ne 7, 3) := by decide +kernel
theorem dX7_returnShare_83 : decode cX7_returnShare 83 = .ok (.iconst 1, 1) := by decide +kernel
theorem dX7_returnShare_84 : decode cX7_returnShare 84 = .ok (.goto 4, 3) := by decide +kernel
theorem dX7_returnShare_87 : decode cX7_returnShare 87 = .ok (.iconst 0, 1) := by decide +kernel
theorem dX7_returnShare_88 : decode cX7_returnShare 88 = .ok (.putfield 79, 3) := by decide +kernel
theorem dX7_returnShare_91 : decode cX7_returnShare 91 = .ok (.aload_n 0, 1) := by decide +kernel
theorem dX7_returnShare_92 : decode cX7_returnShare 92 = .ok (.getfield 79, 3) := by decide +kernel
theorem dX7_returnShare_95 : decode cX7_returnShare 95 = .ok (.ifCond .le 7, 3) := by decide +kernel
theorem dX7_returnShare_98 : decode cX7_returnShare 98 = .ok (.fconst 0, 1) := by decide +kernel
theorem dX7_returnShare_99 : decode cX7_returnShare 99 = .ok (.goto 8, 3) := by decide +kernel
theorem dX7_returnShare_102 : decode cX7_returnShare 102 = .ok (.iload_n 2, 1) := by decide +kernel
theorem dX7_returnShare_103 : decode cX7_returnShare 103 = .ok (.i2f, 1) := by decide +kernel
theorem dX7_returnShare_104 : decode cX7_returnShare 104 = .ok (.iload_n 1, 1) := by decide +kernel
theorem dX7_returnShare_105 : decode cX7_returnShare 105 = .ok (.i2f, 1) := by decide +kernel
theorem dX7_returnShare_106 : decode cX7_returnShare 106 = .ok (.fdiv, 1) := by decide +kernel
theorem dX7_returnShare_107 : decode cX7_returnShare 107 = .ok (.freturn, 1) := by decide +kernel
theorem dX7_meanPages_0 : decode cX7_meanPages 0 = .ok (.iconst 0, 1) := by decide +kernel
theorem dX7_meanPages_1 : decode cX7_meanPages 1 = .ok (.istore_n 1, 1) := by decide +kernel
theorem dX7_meanPages_2 : decode cX7_meanPages 2 = .ok (.iconst 0, 1) := by decide +kernel
theorem dX7_meanPages_3 : decode cX7_meanPages 3 = .ok (.istore_n 2, 1) := by decide +kernel
theorem dX7_meanPages_4 : decode cX7_meanPages 4 = .ok (.iconst 0, 1) := by decide +kernel
theorem dX7_meanPages_5 : decode cX7_meanPages 5 = .ok (.istore_n 3, 1) := by decide +kernel
theorem dX7_meanPages_6 : decode cX7_meanPages 6 = .ok (.iload_n 3, 1) := by decide +kernel
theorem dX7_meanPages_7 : decode cX7_meanPages 7 = .ok (.aload_n 0, 1) := by decide +kernel
theorem dX7_meanPages_8 : decode cX7_meanPages 8 = .ok (.getfield 95, 3) := by decide +kernel
theorem dX7_meanPages_11 : decode cX7_meanPages 11 = .ok (.if_icmp .ge 73, 3) := by decide +kernel
theorem dX7_meanPages_14 : decode cX7_meanPages 14 = .ok (.iconst 0, 1) := by decide +kernel
theorem dX7_meanPages_15 : decode cX7_meanPages 15 = .ok (.istore 4, 2) := by decide +kernel
theorem dX7_meanPages_17 : decode cX7_meanPages 17 = .ok (.iload 4, 2) := by decide +kernel
theorem dX7_meanPages_19 : decode cX7_meanPages 19 = .ok (.aload_n 0, 1) := by decide +kernel
theorem dX7_meanPages_20 : decode cX7_meanPages 20 = .ok (.getfield 54, 3) := by decide +kernel
theorem dX7_meanPages_23 : decode cX7_meanPages 23 = .ok (.iload_n 3, 1) := by decide +kernel
theorem dX7_meanPages_24 : decode cX7_meanPages 24 = .ok (.iaload, 1) := by decide +kernel
theorem dX7_meanPages_25 : decode cX7_meanPages 25 = .ok (.if_icmp .ge 53, 3) := by decide +kernel
theorem dX7_meanPages_28 : decode cX7_meanPages 28 = .ok (.iload_n 1, 1) := by decide +kernel
theorem dX7_meanPages_29 : decode cX7_meanPages 29 = .ok (.aload_n 0, 1) := by decide +kernel
theorem dX7_meanPages_30 : decode cX7_meanPages 30 = .ok (.iload_n 3, 1) := by decide +kernel
theorem dX7_meanPages_31 : decode cX7_meanPages 31 = .ok (.iload 4, 2) := by decide +kernel
theorem dX7_meanPages_33 : decode cX7_meanPages 33 = .ok (.invokevirtual 147, 3) := by decide +kernel
theorem dX7_meanPages_36 : decode cX7_meanPages 36 = .ok (.ifCond .eq 7, 3) := by decide +kernel
theorem dX7_meanPages_39 : decode cX7_meanPages 39 = .ok (.iconst 1, 1) := by decide +kernel
theorem dX7_meanPages_40 : decode cX7_meanPages 40 = .ok (.goto 4, 3) := by decide +kernel
theorem dX7_meanPages_43 : decode cX7_meanPages 43 = .ok (.iconst 0, 1) := by decide +kernel
theorem dX7_meanPages_44 : decode cX7_meanPages 44 = .ok (.iadd, 1) := by decide +kernel
theorem dX7_meanPages_45 : decode cX7_meanPages 45 = .ok (.istore_n 1, 1) := by decide +kernel
theorem dX7_meanPages_46 : decode cX7_meanPages 46 = .ok (.iload_n 2, 1) := by decide +kernel
theorem dX7_meanPages_47 : decode cX7_meanPages 47 = .ok (.aload_n 0, 1) := by decide +kernel
theorem dX7_meanPages_48 : decode cX7_meanPages 48 = .ok (.iload_n 3, 1) := by decide +kernel
theorem dX7_meanPages_49 : decode cX7_meanPages 49 = .ok (.iload 4, 2) := by decide +kernel
theorem dX7_meanPages_51 : decode cX7_meanPages 51 = .ok (.invokevirtual 147, 3) := by decide +kernel
theorem dX7_meanPages_54 : decode cX7_meanPages 54 = .ok (.ifCond .eq 15, 3) := by decide +kernel
theorem dX7_meanPages_57 : decode cX7_meanPages 57 = .ok (.aload_n 0, 1) := by decide +kernel
theorem dX7_meanPages_58 : decode cX7_meanPages 58 = .ok (.getfield 62, 3) := by decide +kernel
theorem dX7_meanPages_61 : decode cX7_meanPages 61 = .ok (.iload_n 3, 1) := by decide +kernel
theorem dX7_meanPages_62 : decode cX7_meanPages 62 = .ok (.aaload, 1) := by decide +kernel
theorem dX7_meanPages_63 : decode cX7_meanPages 63 = .ok (.iload 4, 2) := by decide +kernel
theorem dX7_meanPages_65 : decode cX7_meanPages 65 = .ok (.iaload, 1) := by decide +kernel
theorem dX7_meanPages_66 : decode cX7_meanPages 66 = .ok (.goto 4, 3) := by decide +kernel
theorem dX7_meanPages_69 : decode cX7_meanPages 69 = .ok (.iconst 0, 1) := by decide +kernel
theorem dX7_meanPages_70 : decode cX7_meanPages 70 = .ok (.iadd, 1) := by decide +kernel
theorem dX7_meanPages_71 : decode cX7_meanPages 71 = .ok (.istore_n 2, 1) := by decide +kernel
theorem dX7_meanPages_72 : decode cX7_meanPages 72 = .ok (.iinc 4 1, 3) := by decide +kernel
theorem dX7_meanPages_75 : decode cX7_meanPages 75 = .ok (.goto (-58), 3) := by decide +kernel
theorem dX7_meanPages_78 : decode cX7_meanPages 78 = .ok (.iinc 3 1, 3) := by decide +kernel
theorem dX7_meanPages_81 : decode cX7_meanPages 81 = .ok (.goto (-75), 3) := by decide +kernel
theorem dX7_meanPages_84 : decode cX7_meanPages 84 = .ok (.aload_n 0, 1) := by decide +kernel
theorem dX7_meanPages_85 : decode cX7_meanPages 85 = .ok (.iload_n 1, 1) := by decide +kernel
theorem dX7_meanPages_86 : decode cX7_meanPages 86 = .ok (.ifCond .ne 7, 3) := by decide +kernel
theorem dX7_meanPages_89 : decode cX7_meanPages 89 = .ok (.iconst 1, 1) := by decide +kernel
theorem dX7_meanPages_90 : decode cX7_meanPages 90 = .ok (.goto 4, 3) := by decide +kernel
theorem dX7_meanPages_93 : decode cX7_meanPages 93 = .ok (.iconst 0, 1) := by decide +kernel
theorem dX7_meanPages_94 : decode cX7_meanPages 94 = .ok (.putfield 79, 3) := by decide +kernel
theorem dX7_meanPages_97 : decode cX7_meanPages 97 = .ok (.aload_n 0, 1) := by decide +kernel
theorem dX7_meanPages_98 : decode cX7_meanPages 98 = .ok (.getfield 79, 3) := by decide +kernel
theorem dX7_meanPages_101 : decode cX7_meanPages 101 = .ok (.ifCond .le 7, 3) := by decide +kernel
theorem dX7_meanPages_104 : decode cX7_meanPages 104 = .ok (.dconst 0, 1) := by decide +kernel
theorem dX7_meanPages_105 : decode cX7_meanPages 105 = .ok (.goto 8, 3) := by decide +kernel
theorem dX7_meanPages_108 : decode cX7_meanPages 108 = .ok (.iload_n 2, 1) := by decide +kernel
theorem dX7_meanPages_109 : decode cX7_meanPages 109 = .ok (.i2d, 1) := by decide +kernel
theorem dX7_meanPages_110 : decode cX7_meanPages 110 = .ok (.iload_n 1, 1) := by decide +kernel
theorem dX7_meanPages_111 : decode cX7_meanPages 111 = .ok (.i2d, 1) := by decide +kernel
theorem dX7_meanPages_112 : decode cX7_meanPages 112 = .ok (.ddiv, 1) := by decide +kernel
theorem dX7_meanPages_113 : decode cX7_meanPages 113 = .ok (.dreturn, 1) := by decide +kernel
theorem dX7_isSound_0 : decode cX7_isSound 0 = .ok (.aload_n 0, 1) := by decide +kernel
theorem dX7_isSound_1 : decode cX7_isSound 1 = .ok (.iconst 0, 1) := by decide +kernel
theorem dX7_isSound_2 : decode cX7_isSound 2 = .ok (.putfield 79, 3) := by decide +kernel
theorem dX7_isSound_5 : decode cX7_isSound 5 = .ok (.iconst 1, 1) := by decide +kernel
theorem dX7_isSound_6 : decode cX7_isSound 6 = .ok (.ireturn, 1) := by decide +kernel
theorem dL_addAddress_0 : decode cL_addAddress 0 = .ok (.aload_n 2, 1) := by decide +kernel
theorem dL_addAddress_1 : decode cL_addAddress 1 = .ok (.iconst 0, 1) := by decide +kernel
theorem dL_addAddress_2 : decode cL_addAddress 2 = .ok (.aload_n 0, 1) := by decide +kernel
theorem dL_addAddress_3 : decode cL_addAddress 3 = .ok (.iload_n 1, 1) := by decide +kernel
theorem dL_addAddress_4 : decode cL_addAddress 4 = .ok (.invokevirtual 7, 3) := by decide +kernel
theorem dL_addAddress_7 : decode cL_addAddress 7 = .ok (.i2l, 1) := by decide +kernel
theorem dL_addAddress_8 : decode cL_addAddress 8 = .ok (.lastore, 1) := by decide +kernel
theorem dL_addAddress_9 : decode cL_addAddress 9 = .ok (.goto 9, 3) := by decide +kernel
theorem dL_addAddress_12 : decode cL_addAddress 12 = .ok (.astore_n 3, 1) := by decide +kernel
theorem dL_addAddress_13 : decode cL_addAddress 13 = .ok (.iconst 1, 1) := by decide +kernel
theorem dL_addAddress_14 : decode cL_addAddress 14 = .ok (.ireturn, 1) := by decide +kernel
theorem dL_addAddress_15 : decode cL_addAddress 15 = .ok (.astore_n 3, 1) := by decide +kernel
theorem dL_addAddress_16 : decode cL_addAddress 16 = .ok (.iconst 2, 1) := by decide +kernel
theorem dL_addAddress_17 : decode cL_addAddress 17 = .ok (.ireturn, 1) := by decide +kernel
theorem dL_addAddress_18 : decode cL_addAddress 18 = .ok (.iconst 0, 1) := by decide +kernel
theorem dL_addAddress_19 : decode cL_addAddress 19 = .ok (.ireturn, 1) := by decide +kernel
theorem dL_join_0 : decode cL_join 0 = .ok (.aload_n 3, 1) := by decide +kernel
theorem dL_join_1 : decode cL_join 1 = .ok (.iconst 0, 1) := by decide +kernel
theorem dL_join_2 : decode cL_join 2 = .ok (.aload_n 0, 1) := by decide +kernel
theorem dL_join_3 : decode cL_join 3 = .ok (.iload_n 1, 1) := by decide +kernel
theorem dL_join_4 : decode cL_join 4 = .ok (.iload_n 2, 1) := by decide +kernel
theorem dL_join_5 : decode cL_join 5 = .ok (.invokevirtual 17, 3) := by decide +kernel
theorem dL_join_8 : decode cL_join 8 = .ok (.i2l, 1) := by decide +kernel
theorem dL_join_9 : decode cL_join 9 = .ok (.lastore, 1) := by decide +kernel
theorem dL_join_10 : decode cL_join 10 = .ok (.goto 11, 3) := by decide +kernel
theorem dL_join_13 : decode cL_join 13 = .ok (.astore 4, 2) := by decide +kernel
theorem dL_join_15 : decode cL_join 15 = .ok (.iconst 1, 1) := by decide +kernel
theorem dL_join_16 : decode cL_join 16 = .ok (.ireturn, 1) := by decide +kernel
theorem dL_join_17 : decode cL_join 17 = .ok (.astore 4, 2) := by decide +kernel
theorem dL_join_19 : decode cL_join 19 = .ok (.iconst 2, 1) := by decide +kernel
theorem dL_join_20 : decode cL_join 20 = .ok (.ireturn, 1) := by decide +kernel
theorem dL_join_21 : decode cL_join 21 = .ok (.iconst 0, 1) := by decide +kernel
theorem dL_join_22 : decode cL_join 22 = .ok (.ireturn, 1) := by decide +kernel
theorem dL_addPerson_0 : decode cL_addPerson 0 = .ok (.aload_n 3, 1) := by decide +kernel
theorem dL_addPerson_1 : decode cL_addPerson 1 = .ok (.iconst 0, 1) := by decide +kernel
theorem dL_addPerson_2 : decode cL_addPerson 2 = .ok (.aload_n 0, 1) := by decide +kernel
theorem dL_addPerson_3 : decode cL_addPerson 3 = .ok (.iload_n 1, 1) := by decide +kernel
theorem dL_addPerson_4 : decode cL_addPerson 4 = .ok (.iload_n 2, 1) := by decide +kernel
theorem dL_addPerson_5 : decode cL_addPerson 5 = .ok (.invokevirtual 23, 3) := by decide +kernel
theorem dL_addPerson_8 : decode cL_addPerson 8 = .ok (.i2l, 1) := by decide +kernel
theorem dL_addPerson_9 : decode cL_addPerson 9 = .ok (.lastore, 1) := by decide +kernel
theorem dL_addPerson_10 : decode cL_addPerson 10 = .ok (.goto 15, 3) := by decide +kernel
theorem dL_addPerson_13 : decode cL_addPerson 13 = .ok (.astore 4, 2) := by decide +kernel
theorem dL_addPerson_15 : decode cL_addPerson 15 = .ok (.iconst 1, 1) := by decide +kernel
theorem dL_addPerson_16 : decode cL_addPerson 16 = .ok (.ireturn, 1) := by decide +kernel
theorem dL_addPerson_17 : decode cL_addPerson 17 = .ok (.astore 4, 2) := by decide +kernel
theorem dL_addPerson_19 : decode cL_addPerson 19 = .ok (.iconst 2, 1) := by decide +kernel
theorem dL_addPerson_20 : decode cL_addPerson 20 = .ok (.ireturn, 1) := by decide +kernel
theorem dL_addPerson_21 : decode cL_addPerson 21 = .ok (.astore 4, 2) := by decide +kernel
theorem dL_addPerson_23 : decode cL_addPerson 23 = .ok (.iconst 3, 1) := by decide +kernel
theorem dL_addPerson_24 : decode cL_addPerson 24 = .ok (.ireturn, 1) := by decide +kernel
theorem dL_addPerson_25 : decode cL_addPerson 25 = .ok (.iconst 0, 1) := by decide +kernel
theorem dL_addPerson_26 : decode cL_addPerson 26 = .ok (.ireturn, 1) := by decide +kernel
theorem dL_setFlags_0 : decode cL_setFlags 0 = .ok (.aload_n 3, 1) := by decide +kernel
theorem dL_setFlags_1 : decode cL_setFlags 1 = .ok (.iconst 0, 1) := by decide +kernel
theorem dL_setFlags_2 : decode cL_setFlags 2 = .ok (.aload_n 0, 1) := by decide +kernel
theorem dL_setFlags_3 : decode cL_setFlags 3 = .ok (.iload_n 1, 1) := by decide +kernel
theorem dL_setFlags_4 : decode cL_setFlags 4 = .ok (.iload_n 2, 1) := by decide +kernel
theorem dL_setFlags_5 : decode cL_setFlags 5 = .ok (.invokevirtual 26, 3) := by decide +kernel
theorem dL_setFlags_8 : decode cL_setFlags 8 = .ok (.i2l, 1) := by decide +kernel
theorem dL_setFlags_9 : decode cL_setFlags 9 = .ok (.lastore, 1) := by decide +kernel
theorem dL_setFlags_10 : decode cL_setFlags 10 = .ok (.goto 11, 3) := by decide +kernel
theorem dL_setFlags_13 : decode cL_setFlags 13 = .ok (.astore 4, 2) := by decide +kernel
theorem dL_setFlags_15 : decode cL_setFlags 15 = .ok (.iconst 1, 1) := by decide +kernel
theorem dL_setFlags_16 : decode cL_setFlags 16 = .ok (.ireturn, 1) := by decide +kernel
theorem dL_setFlags_17 : decode cL_setFlags 17 = .ok (.astore 4, 2) := by decide +kernel
theorem dL_setFlags_19 : decode cL_setFlags 19 = .ok (.iconst 2, 1) := by decide +kernel
theorem dL_setFlags_20 : decode cL_setFlags 20 = .ok (.ireturn, 1) := by decide +kernel
theorem dL_setFlags_21 : decode cL_setFlags 21 = .ok (.iconst 0, 1) := by decide +kernel
theorem dL_setFlags_22 : decode cL_setFlags 22 = .ok (.ireturn, 1) := by decide +kernel
theorem dL_move_0 : decode cL_move 0 = .ok (.aload_n 3, 1) := by decide +kernel
theorem dL_move_1 : decode cL_move 1 = .ok (.iconst 0, 1) := by decide +kernel
theorem dL_move_2 : decode cL_move 2 = .ok (.aload_n 0, 1) := by decide +kernel
theorem dL_move_3 : decode cL_move 3 = .ok (.iload_n 1, 1) := by decide +kernel
theorem dL_move_4 : decode cL_move 4 = .ok (.iload_n 2, 1) := by decide +kernel
theorem dL_move_5 : decode cL_move 5 = .ok (.invokevirtual 29, 3) := by decide +kernel
theorem dL_move_8 : decode cL_move 8 = .ok (.i2l, 1) := by decide +kernel
theorem dL_move_9 : decode cL_move 9 = .ok (.lastore, 1) := by decide +kernel
theorem dL_move_10 : decode cL_move 10 = .ok (.goto 7, 3) := by decide +kernel
theorem dL_move_13 : decode cL_move 13 = .ok (.astore 4, 2) := by decide +kernel
theorem dL_move_15 : decode cL_move 15 = .ok (.iconst 1, 1) := by decide +kernel
theorem dL_move_16 : decode cL_move 16 = .ok (.ireturn, 1) := by decide +kernel
theorem dL_move_17 : decode cL_move 17 = .ok (.iconst 0, 1) := by decide +kernel
theorem dL_move_18 : decode cL_move 18 = .ok (.ireturn, 1) := by decide +kernel
theorem dL_suppress_0 : decode cL_suppress 0 = .ok (.aload_n 3, 1) := by decide +kernel
theorem dL_suppress_1 : decode cL_suppress 1 = .ok (.iconst 0, 1) := by decide +kernel
theorem dL_suppress_2 : decode cL_suppress 2 = .ok (.aload_n 0, 1) := by decide +kernel
theorem dL_suppress_3 : decode cL_suppress 3 = .ok (.iload_n 1, 1) := by decide +kernel
theorem dL_suppress_4 : decode cL_suppress 4 = .ok (.iload_n 2, 1) := by decide +kernel
theorem dL_suppress_5 : decode cL_suppress 5 = .ok (.invokevirtual 32, 3) := by decide +kernel
theorem dL_suppress_8 : decode cL_suppress 8 = .ok (.i2l, 1) := by decide +kernel
theorem dL_suppress_9 : decode cL_suppress 9 = .ok (.lastore, 1) := by decide +kernel
theorem dL_suppress_10 : decode cL_suppress 10 = .ok (.goto 11, 3) := by decide +kernel
theorem dL_suppress_13 : decode cL_suppress 13 = .ok (.astore 4, 2) := by decide +kernel
theorem dL_suppress_15 : decode cL_suppress 15 = .ok (.iconst 1, 1) := by decide +kernel
theorem dL_suppress_16 : decode cL_suppress 16 = .ok (.ireturn, 1) := by decide +kernel
theorem dL_suppress_17 : decode cL_suppress 17 = .ok (.astore 4, 2) := by decide +kernel
theorem dL_suppress_19 : decode cL_suppress 19 = .ok (.iconst 2, 1) := by decide +kernel
theorem dL_suppress_20 : decode cL_suppress 20 = .ok (.ireturn, 1) := by decide +kernel
theorem dL_suppress_21 : decode cL_suppress 21 = .ok (.iconst 0, 1) := by decide +kernel
theorem dL_suppress_22 : decode cL_suppress 22 = .ok (.ireturn, 1) := by decide +kernel
theorem dL_allow_0 : decode cL_allow 0 = .ok (.aload_n 2, 1) := by decide +kernel
theorem dL_allow_1 : decode cL_allow 1 = .ok (.iconst 0, 1) := by decide +kernel
theorem dL_allow_2 : decode cL_allow 2 = .ok (.aload_n 0, 1) := by decide +kernel
theorem dL_allow_3 : decode cL_allow 3 = .ok (.iload_n 1, 1) := by decide +kernel
theorem dL_allow_4 : decode cL_allow 4 = .ok (.invokevirtual 36, 3) := by decide +kernel
theorem dL_allow_7 : decode cL_allow 7 = .ok (.i2l, 1) := by decide +kernel
theorem dL_allow_8 : decode cL_allow 8 = .ok (.lastore, 1) := by decide +kernel
theorem dL_allow_9 : decode cL_allow 9 = .ok (.goto 9, 3) := by decide +kernel
theorem dL_allow_12 : decode cL_allow 12 = .ok (.astore_n 3, 1) := by decide +kernel
theorem dL_allow_13 : decode cL_allow 13 = .ok (.iconst 1, 1) := by decide +kernel
theorem dL_allow_14 : decode cL_allow 14 = .ok (.ireturn, 1) := by decide +kernel
theorem dL_allow_15 : decode cL_allow 15 = .ok (.astore_n 3, 1) := by decide +kernel
theorem dL_allow_16 : decode cL_allow 16 = .ok (.iconst 2, 1) := by decide +kernel
theorem dL_allow_17 : decode cL_allow 17 = .ok (.ireturn, 1) := by decide +kernel
theorem dL_allow_18 : decode cL_allow 18 = .ok (.iconst 0, 1) := by decide +kernel
theorem dL_allow_19 : decode cL_allow 19 = .ok (.ireturn, 1) := by decide +kernel
theorem dL_addressOf_0 : decode cL_addressOf 0 = .ok (.aload_n 2, 1) := by decide +kernel
theorem dL_addressOf_1 : decode cL_addressOf 1 = .ok (.iconst 0, 1) := by decide +kernel
theorem dL_addressOf_2 : decode cL_addressOf 2 = .ok (.aload_n 0, 1) := by decide +kernel
theorem dL_addressOf_3 : decode cL_addressOf 3 = .ok (.iload_n 1, 1) := by decide +kernel
theorem dL_addressOf_4 : decode cL_addressOf 4 = .ok (.invokevirtual 40, 3) := by decide +kernel
theorem dL_addressOf_7 : decode cL_addressOf 7 = .ok (.i2l, 1) := by decide +kernel
theorem dL_addressOf_8 : decode cL_addressOf 8 = .ok (.lastore, 1) := by decide +kernel
theorem dL_addressOf_9 : decode cL_addressOf 9 = .ok (.goto 6, 3) := by decide +kernel
theorem dL_addressOf_12 : decode cL_addressOf 12 = .ok (.astore_n 3, 1) := by decide +kernel
theorem dL_addressOf_13 : decode cL_addressOf 13 = .ok (.iconst 1, 1) := by decide +kernel
theorem dL_addressOf_14 : decode cL_addressOf 14 = .ok (.ireturn, 1) := by decide +kernel
theorem dL_addressOf_15 : decode cL_addressOf 15 = .ok (.iconst 0, 1) := by decide +kernel
theorem dL_addressOf_16 : decode cL_addressOf 16 = .ok (.ireturn, 1) := by decide +kernel
theorem dL_reasonOf_0 : decode cL_reasonOf 0 = .ok (.aload_n 2, 1) := by decide +kernel
theorem dL_reasonOf_1 : decode cL_reasonOf 1 = .ok (.iconst 0, 1) := by decide +kernel
theorem dL_reasonOf_2 : decode cL_reasonOf 2 = .ok (.aload_n 0, 1) := by decide +kernel
theorem dL_reasonOf_3 : decode cL_reasonOf 3 = .ok (.iload_n 1, 1) := by decide +kernel
theorem dL_reasonOf_4 : decode cL_reasonOf 4 = .ok (.invokevirtual 43, 3) := by decide +kernel
theorem dL_reasonOf_7 : decode cL_reasonOf 7 = .ok (.i2l, 1) := by decide +kernel
theorem dL_reasonOf_8 : decode cL_reasonOf 8 = .ok (.lastore, 1) := by decide +kernel
theorem dL_reasonOf_9 : decode cL_reasonOf 9 = .ok (.goto 6, 3) := by decide +kernel
theorem dL_reasonOf_12 : decode cL_reasonOf 12 = .ok (.astore_n 3, 1) := by decide +kernel
theorem dL_reasonOf_13 : decode cL_reasonOf 13 = .ok (.iconst 1, 1) := by decide +kernel
theorem dL_reasonOf_14 : decode cL_reasonOf 14 = .ok (.ireturn, 1) := by decide +kernel
theorem dL_reasonOf_15 : decode cL_reasonOf 15 = .ok (.iconst 0, 1) := by decide +kernel
theorem dL_reasonOf_16 : decode cL_reasonOf 16 = .ok (.ireturn, 1) := by decide +kernel
theorem dL_strikes_0 : decode cL_strikes 0 = .ok (.aload_n 2, 1) := by decide +kernel
theorem dL_strikes_1 : decode cL_strikes 1 = .ok (.iconst 0, 1) := by decide +kernel
theorem dL_strikes_2 : decode cL_strikes 2 = .ok (.aload_n 0, 1) := by decide +kernel
theorem dL_strikes_3 : decode cL_strikes 3 = .ok (.iload_n 1, 1) := by decide +kernel
theorem dL_strikes_4 : decode cL_strikes 4 = .ok (.invokevirtual 46, 3) := by decide +kernel
theorem dL_strikes_7 : decode cL_strikes 7 = .ok (.i2l, 1) := by decide +kernel
theorem dL_strikes_8 : decode cL_strikes 8 = .ok (.lastore, 1) := by decide +kernel
theorem dL_strikes_9 : decode cL_strikes 9 = .ok (.goto 6, 3) := by decide +kernel
theorem dL_strikes_12 : decode cL_strikes 12 = .ok (.astore_n 3, 1) := by decide +kernel
theorem dL_strikes_13 : decode cL_strikes 13 = .ok (.iconst 1, 1) := by decide +kernel
theorem dL_strikes_14 : decode cL_strikes 14 = .ok (.ireturn, 1) := by decide +kernel
theorem dL_strikes_15 : decode cL_strikes 15 = .ok (.iconst 0, 1) := by decide +kernel
theorem dL_strikes_16 : decode cL_strikes 16 = .ok (.ireturn, 1) := by decide +kernel
theorem dL_addTemplate_0 : decode cL_addTemplate 0 = .ok (.aload_n 1, 1) := by decide +kernel
theorem dL_addTemplate_1 : decode cL_addTemplate 1 = .ok (.iconst 0, 1) := by decide +kernel
theorem dL_addTemplate_2 : decode cL_addTemplate 2 = .ok (.aload_n 0, 1) := by decide +kernel
theorem dL_addTemplate_3 : decode cL_addTemplate 3 = .ok (.invokevirtual 49, 3) := by decide +kernel
theorem dL_addTemplate_6 : decode cL_addTemplate 6 = .ok (.i2l, 1) := by decide +kernel
theorem dL_addTemplate_7 : decode cL_addTemplate 7 = .ok (.lastore, 1) := by decide +kernel
theorem dL_addTemplate_8 : decode cL_addTemplate 8 = .ok (.goto 6, 3) := by decide +kernel
theorem dL_addTemplate_11 : decode cL_addTemplate 11 = .ok (.astore_n 2, 1) := by decide +kernel
theorem dL_addTemplate_12 : decode cL_addTemplate 12 = .ok (.iconst 1, 1) := by decide +kernel
theorem dL_addTemplate_13 : decode cL_addTemplate 13 = .ok (.ireturn, 1) := by decide +kernel
theorem dL_addTemplate_14 : decode cL_addTemplate 14 = .ok (.iconst 0, 1) := by decide +kernel
theorem dL_addTemplate_15 : decode cL_addTemplate 15 = .ok (.ireturn, 1) := by decide +kernel
theorem dL_addPart_0 : decode cL_addPart 0 = .ok (.aload 5, 2) := by decide +kernel
theorem dL_addPart_2 : decode cL_addPart 2 = .ok (.iconst 0, 1) := by decide +kernel
theorem dL_addPart_3 : decode cL_addPart 3 = .ok (.aload_n 0, 1) := by decide +kernel
theorem dL_addPart_4 : decode cL_addPart 4 = .ok (.iload_n 1, 1) := by decide +kernel
theorem dL_addPart_5 : decode cL_addPart 5 = .ok (.iload_n 2, 1) := by decide +kernel
theorem dL_addPart_6 : decode cL_addPart 6 = .ok (.iload_n 3, 1) := by decide +kernel
theorem dL_addPart_7 : decode cL_addPart 7 = .ok (.iload 4, 2) := by decide +kernel
theorem dL_addPart_9 : decode cL_addPart 9 = .ok (.invokevirtual 53, 3) := by decide +kernel
theorem dL_addPart_12 : decode cL_addPart 12 = .ok (.i2l, 1) := by decide +kernel
theorem dL_addPart_13 : decode cL_addPart 13 = .ok (.lastore, 1) := by decide +kernel
theorem dL_addPart_14 : decode cL_addPart 14 = .ok (.goto 15, 3) := by decide +kernel
theorem dL_addPart_17 : decode cL_addPart 17 = .ok (.astore 6, 2) := by decide +kernel
theorem dL_addPart_19 : decode cL_addPart 19 = .ok (.iconst 1, 1) := by decide +kernel
theorem dL_addPart_20 : decode cL_addPart 20 = .ok (.ireturn, 1) := by decide +kernel
theorem dL_addPart_21 : decode cL_addPart 21 = .ok (.astore 6, 2) := by decide +kernel
theorem dL_addPart_23 : decode cL_addPart 23 = .ok (.iconst 2, 1) := by decide +kernel
theorem dL_addPart_24 : decode cL_addPart 24 = .ok (.ireturn, 1) := by decide +kernel
theorem dL_addPart_25 : decode cL_addPart 25 = .ok (.astore 6, 2) := by decide +kernel
theorem dL_addPart_27 : decode cL_addPart 27 = .ok (.iconst 3, 1) := by decide +kernel
theorem dL_addPart_28 : decode cL_addPart 28 = .ok (.ireturn, 1) := by decide +kernel
theorem dL_addPart_29 : decode cL_addPart 29 = .ok (.iconst 0, 1) := by decide +kernel
theorem dL_addPart_30 : decode cL_addPart 30 = .ok (.ireturn, 1) := by decide +kernel
theorem dL_pagesFor_0 : decode cL_pagesFor 0 = .ok (.aload_n 3, 1) := by decide +kernel
theorem dL_pagesFor_1 : decode cL_pagesFor 1 = .ok (.iconst 0, 1) := by decide +kernel
theorem dL_pagesFor_2 : decode cL_pagesFor 2 = .ok (.aload_n 0, 1) := by decide +kernel
theorem dL_pagesFor_3 : decode cL_pagesFor 3 = .ok (.iload_n 1, 1) := by decide +kernel
theorem dL_pagesFor_4 : decode cL_pagesFor 4 = .ok (.iload_n 2, 1) := by decide +kernel
theorem dL_pagesFor_5 : decode cL_pagesFor 5 = .ok (.invokevirtual 57, 3) := by decide +kernel
theorem dL_pagesFor_8 : decode cL_pagesFor 8 = .ok (.i2l, 1) := by decide +kernel
theorem dL_pagesFor_9 : decode cL_pagesFor 9 = .ok (.lastore, 1) := by decide +kernel
theorem dL_pagesFor_10 : decode cL_pagesFor 10 = .ok (.goto 11, 3) := by decide +kernel
theorem dL_pagesFor_13 : decode cL_pagesFor 13 = .ok (.astore 4, 2) := by decide +kernel
theorem dL_pagesFor_15 : decode cL_pagesFor 15 = .ok (.iconst 1, 1) := by decide +kernel
theorem dL_pagesFor_16 : decode cL_pagesFor 16 = .ok (.ireturn, 1) := by decide +kernel
theorem dL_pagesFor_17 : decode cL_pagesFor 17 = .ok (.astore 4, 2) := by decide +kernel
theorem dL_pagesFor_19 : decode cL_pagesFor 19 = .ok (.iconst 2, 1) := by decide +kernel
theorem dL_pagesFor_20 : decode cL_pagesFor 20 = .ok (.ireturn, 1) := by decide +kernel
theorem dL_pagesFor_21 : decode cL_pagesFor 21 = .ok (.iconst 0, 1) := by decide +kernel
theorem dL_pagesFor_22 : decode cL_pagesFor 22 = .ok (.ireturn, 1) := by decide +kernel
theorem dL_buyPaper_0 : decode cL_buyPaper 0 = .ok (.aload_n 2, 1) := by decide +kernel
theorem dL_buyPaper_1 : decode cL_buyPaper 1 = .ok (.iconst 0, 1) := by decide +kernel
theorem dL_buyPaper_2 : decode cL_buyPaper 2 = .ok (.aload_n 0, 1) := by decide +kernel
theorem dL_buyPaper_3 : decode cL_buyPaper 3 = .ok (.iload_n 1, 1) := by decide +kernel
theorem dL_buyPaper_4 : decode cL_buyPaper 4 = .ok (.invokevirtual 60, 3) := by decide +kernel
theorem dL_buyPaper_7 : decode cL_buyPaper 7 = .ok (.i2l, 1) := by decide +kernel
theorem dL_buyPaper_8 : decode cL_buyPaper 8 = .ok (.lastore, 1) := by decide +kernel
theorem dL_buyPaper_9 : decode cL_buyPaper 9 = .ok (.goto 9, 3) := by decide +kernel
theorem dL_buyPaper_12 : decode cL_buyPaper 12 = .ok (.astore_n 3, 1) := by decide +kernel
theorem dL_buyPaper_13 : decode cL_buyPaper 13 = .ok (.iconst 1, 1) := by decide +kernel
theorem dL_buyPaper_14 : decode cL_buyPaper 14 = .ok (.ireturn, 1) := by decide +kernel
theorem dL_buyPaper_15 : decode cL_buyPaper 15 = .ok (.astore_n 3, 1) := by decide +kernel
theorem dL_buyPaper_16 : decode cL_buyPaper 16 = .ok (.iconst 2, 1) := by decide +kernel
theorem dL_buyPaper_17 : decode cL_buyPaper 17 = .ok (.ireturn, 1) := by decide +kernel
theorem dL_buyPaper_18 : decode cL_buyPaper 18 = .ok (.iconst 0, 1) := by decide +kernel
theorem dL_buyPaper_19 : decode cL_buyPaper 19 = .ok (.ireturn, 1) := by decide +kernel
theorem dL_buyEnvelopes_0 : decode cL_buyEnvelopes 0 = .ok (.aload_n 3, 1) := by decide +kernel
theorem dL_buyEnvelopes_1 : decode cL_buyEnvelopes 1 = .ok (.iconst 0, 1) := by decide +kernel
theorem dL_buyEnvelopes_2 : decode cL_buyEnvelopes 2 = .ok (.aload_n 0, 1) := by decide +kernel
theorem dL_buyEnvelopes_3 : decode cL_buyEnvelopes 3 = .ok (.iload_n 1, 1) := by decide +kernel
theorem dL_buyEnvelopes_4 : decode cL_buyEnvelopes 4 = .ok (.iload_n 2, 1) := by decide +kernel
theorem dL_buyEnvelopes_5 : decode cL_buyEnvelopes 5 = .ok (.invokevirtual 63, 3) := by decide +kernel
theorem dL_buyEnvelopes_8 : decode cL_buyEnvelopes 8 = .ok (.i2l, 1) := by decide +kernel
theorem dL_buyEnvelopes_9 : decode cL_buyEnvelopes 9 = .ok (.lastore, 1) := by decide +kernel
theorem dL_buyEnvelopes_10 : decode cL_buyEnvelopes 10 = .ok (.goto 11, 3) := by decide +kernel
theorem dL_buyEnvelopes_13 : decode cL_buyEnvelopes 13 = .ok (.astore 4, 2) := by decide +kernel
theorem dL_buyEnvelopes_15 : decode cL_buyEnvelopes 15 = .ok (.iconst 1, 1) := by decide +kernel
theorem dL_buyEnvelopes_16 : decode cL_buyEnvelopes 16 = .ok (.ireturn, 1) := by decide +kernel
theorem dL_buyEnvelopes_17 : decode cL_buyEnvelopes 17 = .ok (.astore 4, 2) := by decide +kernel
theorem dL_buyEnvelopes_19 : decode cL_buyEnvelopes 19 = .ok (.iconst 2, 1) := by decide +kernel
theorem dL_buyEnvelopes_20 : decode cL_buyEnvelopes 20 = .ok (.ireturn, 1) := by decide +kernel
theorem dL_buyEnvelopes_21 : decode cL_buyEnvelopes 21 = .ok (.iconst 0, 1) := by decide +kernel
theorem dL_buyEnvelopes_22 : decode cL_buyEnvelopes 22 = .ok (.ireturn, 1) := by decide +kernel
theorem dL_run_0 : decode cL_run 0 = .ok (.aload_n 3, 1) := by decide +kernel
theorem dL_run_1 : decode cL_run 1 = .ok (.iconst 0, 1) := by decide +kernel
theorem dL_run_2 : decode cL_run 2 = .ok (.aload_n 0, 1) := by decide +kernel
theorem dL_run_3 : decode cL_run 3 = .ok (.iload_n 1, 1) := by decide +kernel
theorem dL_run_4 : decode cL_run 4 = .ok (.iload_n 2, 1) := by decide +kernel
theorem dL_run_5 : decode cL_run 5 = .ok (.invokevirtual 67, 3) := by decide +kernel
theorem dL_run_8 : decode cL_run 8 = .ok (.i2l, 1) := by decide +kernel
theorem dL_run_9 : decode cL_run 9 = .ok (.lastore, 1) := by decide +kernel
theorem dL_run_10 : decode cL_run 10 = .ok (.goto 11, 3) := by decide +kernel
theorem dL_run_13 : decode cL_run 13 = .ok (.astore 4, 2) := by decide +kernel
theorem dL_run_15 : decode cL_run 15 = .ok (.iconst 1, 1) := by decide +kernel
theorem dL_run_16 : decode cL_run 16 = .ok (.ireturn, 1) := by decide +kernel
theorem dL_run_17 : decode cL_run 17 = .ok (.astore 4, 2) := by decide +kernel
theorem dL_run_19 : decode cL_run 19 = .ok (.iconst 2, 1) := by decide +kernel
theorem dL_run_20 : decode cL_run 20 = .ok (.ireturn, 1) := by decide +kernel
theorem dL_run_21 : decode cL_run 21 = .ok (.iconst 0, 1) := by decide +kernel
theorem dL_run_22 : decode cL_run 22 = .ok (.ireturn, 1) := by decide +kernel
theorem dL_preview_0 : decode cL_preview 0 = .ok (.aload 4, 2) := by decide +kernel
theorem dL_preview_2 : decode cL_preview 2 = .ok (.iconst 0, 1) := by decide +kernel
theorem dL_preview_3 : decode cL_preview 3 = .ok (.aload_n 0, 1) := by decide +kernel
theorem dL_preview_4 : decode cL_preview 4 = .ok (.iload_n 1, 1) := by decide +kernel
theorem dL_preview_5 : decode cL_preview 5 = .ok (.iload_n 2, 1) := by decide +kernel
theorem dL_preview_6 : decode cL_preview 6 = .ok (.iload_n 3, 1) := by decide +kernel
theorem dL_preview_7 : decode cL_preview 7 = .ok (.invokevirtual 71, 3) := by decide +kernel
theorem dL_preview_10 : decode cL_preview 10 = .ok (.i2l, 1) := by decide +kernel
theorem dL_preview_11 : decode cL_preview 11 = .ok (.lastore, 1) := by decide +kernel
theorem dL_preview_12 : decode cL_preview 12 = .ok (.goto 7, 3) := by decide +kernel
theorem dL_preview_15 : decode cL_preview 15 = .ok (.astore 5, 2) := by decide +kernel
theorem dL_preview_17 : decode cL_preview 17 = .ok (.iconst 1, 1) := by decide +kernel
theorem dL_preview_18 : decode cL_preview 18 = .ok (.ireturn, 1) := by decide +kernel
theorem dL_preview_19 : decode cL_preview 19 = .ok (.iconst 0, 1) := by decide +kernel
theorem dL_preview_20 : decode cL_preview 20 = .ok (.ireturn, 1) := by decide +kernel
theorem dL_previewAlone_0 : decode cL_previewAlone 0 = .ok (.aload 4, 2) := by decide +kernel
theorem dL_previewAlone_2 : decode cL_previewAlone 2 = .ok (.iconst 0, 1) := by decide +kernel
theorem dL_previewAlone_3 : decode cL_previewAlone 3 = .ok (.aload_n 0, 1) := by decide +kernel
theorem dL_previewAlone_4 : decode cL_previewAlone 4 = .ok (.iload_n 1, 1) := by decide +kernel
theorem dL_previewAlone_5 : decode cL_previewAlone 5 = .ok (.iload_n 2, 1) := by decide +kernel
theorem dL_previewAlone_6 : decode cL_previewAlone 6 = .ok (.iload_n 3, 1) := by decide +kernel
theorem dL_previewAlone_7 : decode cL_previewAlone 7 = .ok (.invokevirtual 75, 3) := by decide +kernel
theorem dL_previewAlone_10 : decode cL_previewAlone 10 = .ok (.i2l, 1) := by decide +kernel
theorem dL_previewAlone_11 : decode cL_previewAlone 11 = .ok (.lastore, 1) := by decide +kernel
theorem dL_previewAlone_12 : decode cL_previewAlone 12 = .ok (.goto 7, 3) := by decide +kernel
theorem dL_previewAlone_15 : decode cL_previewAlone 15 = .ok (.astore 5, 2) := by decide +kernel
theorem dL_previewAlone_17 : decode cL_previewAlone 17 = .ok (.iconst 1, 1) := by decide +kernel
theorem dL_previewAlone_18 : decode cL_previewAlone 18 = .ok (.ireturn, 1) := by decide +kernel
theorem dL_previewAlone_19 : decode cL_previewAlone 19 = .ok (.iconst 0, 1) := by decide +kernel
theorem dL_previewAlone_20 : decode cL_previewAlone 20 = .ok (.ireturn, 1) := by decide +kernel
theorem dL_outcome_0 : decode cL_outcome 0 = .ok (.aload_n 3, 1) := by decide +kernel
theorem dL_outcome_1 : decode cL_outcome 1 = .ok (.iconst 0, 1) := by decide +kernel
theorem dL_outcome_2 : decode cL_outcome 2 = .ok (.aload_n 0, 1) := by decide +kernel
theorem dL_outcome_3 : decode cL_outcome 3 = .ok (.iload_n 1, 1) := by decide +kernel
theorem dL_outcome_4 : decode cL_outcome 4 = .ok (.iload_n 2, 1) := by decide +kernel
theorem dL_outcome_5 : decode cL_outcome 5 = .ok (.invokevirtual 78, 3) := by decide +kernel
theorem dL_outcome_8 : decode cL_outcome 8 = .ok (.i2l, 1) := by decide +kernel
theorem dL_outcome_9 : decode cL_outcome 9 = .ok (.lastore, 1) := by decide +kernel
theorem dL_outcome_10 : decode cL_outcome 10 = .ok (.goto 7, 3) := by decide +kernel
theorem dL_outcome_13 : decode cL_outcome 13 = .ok (.astore 4, 2) := by decide +kernel
theorem dL_outcome_15 : decode cL_outcome 15 = .ok (.iconst 1, 1) := by decide +kernel
theorem dL_outcome_16 : decode cL_outcome 16 = .ok (.ireturn, 1) := by decide +kernel
theorem dL_outcome_17 : decode cL_outcome 17 = .ok (.iconst 0, 1) := by decide +kernel
theorem dL_outcome_18 : decode cL_outcome 18 = .ok (.ireturn, 1) := by decide +kernel
theorem dL_comesBack_0 : decode cL_comesBack 0 = .ok (.aload 4, 2) := by decide +kernel
theorem dL_comesBack_2 : decode cL_comesBack 2 = .ok (.iconst 0, 1) := by decide +kernel
theorem dL_comesBack_3 : decode cL_comesBack 3 = .ok (.aload_n 0, 1) := by decide +kernel
theorem dL_comesBack_4 : decode cL_comesBack 4 = .ok (.iload_n 1, 1) := by decide +kernel
theorem dL_comesBack_5 : decode cL_comesBack 5 = .ok (.iload_n 2, 1) := by decide +kernel
theorem dL_comesBack_6 : decode cL_comesBack 6 = .ok (.iload_n 3, 1) := by decide +kernel
theorem dL_comesBack_7 : decode cL_comesBack 7 = .ok (.invokevirtual 82, 3) := by decide +kernel
theorem dL_comesBack_10 : decode cL_comesBack 10 = .ok (.i2l, 1) := by decide +kernel
theorem dL_comesBack_11 : decode cL_comesBack 11 = .ok (.lastore, 1) := by decide +kernel
theorem dL_comesBack_12 : decode cL_comesBack 12 = .ok (.goto 15, 3) := by decide +kernel
theorem dL_comesBack_15 : decode cL_comesBack 15 = .ok (.astore 5, 2) := by decide +kernel
theorem dL_comesBack_17 : decode cL_comesBack 17 = .ok (.iconst 1, 1) := by decide +kernel
theorem dL_comesBack_18 : decode cL_comesBack 18 = .ok (.ireturn, 1) := by decide +kernel
theorem dL_comesBack_19 : decode cL_comesBack 19 = .ok (.astore 5, 2) := by decide +kernel
theorem dL_comesBack_21 : decode cL_comesBack 21 = .ok (.iconst 2, 1) := by decide +kernel
theorem dL_comesBack_22 : decode cL_comesBack 22 = .ok (.ireturn, 1) := by decide +kernel
theorem dL_comesBack_23 : decode cL_comesBack 23 = .ok (.astore 5, 2) := by decide +kernel
theorem dL_comesBack_25 : decode cL_comesBack 25 = .ok (.iconst 3, 1) := by decide +kernel
theorem dL_comesBack_26 : decode cL_comesBack 26 = .ok (.ireturn, 1) := by decide +kernel
theorem dL_comesBack_27 : decode cL_comesBack 27 = .ok (.iconst 0, 1) := by decide +kernel
theorem dL_comesBack_28 : decode cL_comesBack 28 = .ok (.ireturn, 1) := by decide +kernel
theorem dL_setBound_0 : decode cL_setBound 0 = .ok (.aload_n 2, 1) := by decide +kernel
theorem dL_setBound_1 : decode cL_setBound 1 = .ok (.iconst 0, 1) := by decide +kernel
theorem dL_setBound_2 : decode cL_setBound 2 = .ok (.aload_n 0, 1) := by decide +kernel
theorem dL_setBound_3 : decode cL_setBound 3 = .ok (.iload_n 1, 1) := by decide +kernel
theorem dL_setBound_4 : decode cL_setBound 4 = .ok (.invokevirtual 86, 3) := by decide +kernel
theorem dL_setBound_7 : decode cL_setBound 7 = .ok (.i2l, 1) := by decide +kernel
theorem dL_setBound_8 : decode cL_setBound 8 = .ok (.lastore, 1) := by decide +kernel
theorem dL_setBound_9 : decode cL_setBound 9 = .ok (.goto 6, 3) := by decide +kernel
theorem dL_setBound_12 : decode cL_setBound 12 = .ok (.astore_n 3, 1) := by decide +kernel
theorem dL_setBound_13 : decode cL_setBound 13 = .ok (.iconst 1, 1) := by decide +kernel
theorem dL_setBound_14 : decode cL_setBound 14 = .ok (.ireturn, 1) := by decide +kernel
theorem dL_setBound_15 : decode cL_setBound 15 = .ok (.iconst 0, 1) := by decide +kernel
theorem dL_setBound_16 : decode cL_setBound 16 = .ok (.ireturn, 1) := by decide +kernel
theorem dL_letters_0 : decode cL_letters 0 = .ok (.aload_n 2, 1) := by decide +kernel
theorem dL_letters_1 : decode cL_letters 1 = .ok (.iconst 0, 1) := by decide +kernel
theorem dL_letters_2 : decode cL_letters 2 = .ok (.aload_n 0, 1) := by decide +kernel
theorem dL_letters_3 : decode cL_letters 3 = .ok (.iload_n 1, 1) := by decide +kernel
theorem dL_letters_4 : decode cL_letters 4 = .ok (.invokevirtual 89, 3) := by decide +kernel
theorem dL_letters_7 : decode cL_letters 7 = .ok (.i2l, 1) := by decide +kernel
theorem dL_letters_8 : decode cL_letters 8 = .ok (.lastore, 1) := by decide +kernel
theorem dL_letters_9 : decode cL_letters 9 = .ok (.goto 6, 3) := by decide +kernel
theorem dL_letters_12 : decode cL_letters 12 = .ok (.astore_n 3, 1) := by decide +kernel
theorem dL_letters_13 : decode cL_letters 13 = .ok (.iconst 1, 1) := by decide +kernel
theorem dL_letters_14 : decode cL_letters 14 = .ok (.ireturn, 1) := by decide +kernel
theorem dL_letters_15 : decode cL_letters 15 = .ok (.iconst 0, 1) := by decide +kernel
theorem dL_letters_16 : decode cL_letters 16 = .ok (.ireturn, 1) := by decide +kernel
theorem dL_postedAt_0 : decode cL_postedAt 0 = .ok (.aload_n 3, 1) := by decide +kernel
theorem dL_postedAt_1 : decode cL_postedAt 1 = .ok (.iconst 0, 1) := by decide +kernel
theorem dL_postedAt_2 : decode cL_postedAt 2 = .ok (.aload_n 0, 1) := by decide +kernel
theorem dL_postedAt_3 : decode cL_postedAt 3 = .ok (.iload_n 1, 1) := by decide +kernel
theorem dL_postedAt_4 : decode cL_postedAt 4 = .ok (.iload_n 2, 1) := by decide +kernel
theorem dL_postedAt_5 : decode cL_postedAt 5 = .ok (.invokevirtual 92, 3) := by decide +kernel
theorem dL_postedAt_8 : decode cL_postedAt 8 = .ok (.i2l, 1) := by decide +kernel
theorem dL_postedAt_9 : decode cL_postedAt 9 = .ok (.lastore, 1) := by decide +kernel
theorem dL_postedAt_10 : decode cL_postedAt 10 = .ok (.goto 11, 3) := by decide +kernel
theorem dL_postedAt_13 : decode cL_postedAt 13 = .ok (.astore 4, 2) := by decide +kernel
theorem dL_postedAt_15 : decode cL_postedAt 15 = .ok (.iconst 1, 1) := by decide +kernel
theorem dL_postedAt_16 : decode cL_postedAt 16 = .ok (.ireturn, 1) := by decide +kernel
theorem dL_postedAt_17 : decode cL_postedAt 17 = .ok (.astore 4, 2) := by decide +kernel
theorem dL_postedAt_19 : decode cL_postedAt 19 = .ok (.iconst 2, 1) := by decide +kernel
theorem dL_postedAt_20 : decode cL_postedAt 20 = .ok (.ireturn, 1) := by decide +kernel
theorem dL_postedAt_21 : decode cL_postedAt 21 = .ok (.iconst 0, 1) := by decide +kernel
theorem dL_postedAt_22 : decode cL_postedAt 22 = .ok (.ireturn, 1) := by decide +kernel
theorem dL_onRoute_0 : decode cL_onRoute 0 = .ok (.aload_n 3, 1) := by decide +kernel
theorem dL_onRoute_1 : decode cL_onRoute 1 = .ok (.iconst 0, 1) := by decide +kernel
theorem dL_onRoute_2 : decode cL_onRoute 2 = .ok (.aload_n 0, 1) := by decide +kernel
theorem dL_onRoute_3 : decode cL_onRoute 3 = .ok (.iload_n 1, 1) := by decide +kernel
theorem dL_onRoute_4 : decode cL_onRoute 4 = .ok (.iload_n 2, 1) := by decide +kernel
theorem dL_onRoute_5 : decode cL_onRoute 5 = .ok (.invokevirtual 97, 3) := by decide +kernel
theorem dL_onRoute_8 : decode cL_onRoute 8 = .ok (.i2l, 1) := by decide +kernel
theorem dL_onRoute_9 : decode cL_onRoute 9 = .ok (.lastore, 1) := by decide +kernel
theorem dL_onRoute_10 : decode cL_onRoute 10 = .ok (.goto 11, 3) := by decide +kernel
theorem dL_onRoute_13 : decode cL_onRoute 13 = .ok (.astore 4, 2) := by decide +kernel
theorem dL_onRoute_15 : decode cL_onRoute 15 = .ok (.iconst 1, 1) := by decide +kernel
theorem dL_onRoute_16 : decode cL_onRoute 16 = .ok (.ireturn, 1) := by decide +kernel
theorem dL_onRoute_17 : decode cL_onRoute 17 = .ok (.astore 4, 2) := by decide +kernel
theorem dL_onRoute_19 : decode cL_onRoute 19 = .ok (.iconst 2, 1) := by decide +kernel
theorem dL_onRoute_20 : decode cL_onRoute 20 = .ok (.ireturn, 1) := by decide +kernel
theorem dL_onRoute_21 : decode cL_onRoute 21 = .ok (.iconst 0, 1) := by decide +kernel
theorem dL_onRoute_22 : decode cL_onRoute 22 = .ok (.ireturn, 1) := by decide +kernel
theorem dL_postage_0 : decode cL_postage 0 = .ok (.aload_n 3, 1) := by decide +kernel
theorem dL_postage_1 : decode cL_postage 1 = .ok (.iconst 0, 1) := by decide +kernel
theorem dL_postage_2 : decode cL_postage 2 = .ok (.aload_n 0, 1) := by decide +kernel
theorem dL_postage_3 : decode cL_postage 3 = .ok (.iload_n 1, 1) := by decide +kernel
theorem dL_postage_4 : decode cL_postage 4 = .ok (.iload_n 2, 1) := by decide +kernel
theorem dL_postage_5 : decode cL_postage 5 = .ok (.invokevirtual 100, 3) := by decide +kernel
theorem dL_postage_8 : decode cL_postage 8 = .ok (.i2l, 1) := by decide +kernel
theorem dL_postage_9 : decode cL_postage 9 = .ok (.lastore, 1) := by decide +kernel
theorem dL_postage_10 : decode cL_postage 10 = .ok (.goto 11, 3) := by decide +kernel
theorem dL_postage_13 : decode cL_postage 13 = .ok (.astore 4, 2) := by decide +kernel
theorem dL_postage_15 : decode cL_postage 15 = .ok (.iconst 1, 1) := by decide +kernel
theorem dL_postage_16 : decode cL_postage 16 = .ok (.ireturn, 1) := by decide +kernel
theorem dL_postage_17 : decode cL_postage 17 = .ok (.astore 4, 2) := by decide +kernel
theorem dL_postage_19 : decode cL_postage 19 = .ok (.iconst 2, 1) := by decide +kernel
theorem dL_postage_20 : decode cL_postage 20 = .ok (.ireturn, 1) := by decide +kernel
theorem dL_postage_21 : decode cL_postage 21 = .ok (.iconst 0, 1) := by decide +kernel
theorem dL_postage_22 : decode cL_postage 22 = .ok (.ireturn, 1) := by decide +kernel
theorem dL_costOf_0 : decode cL_costOf 0 = .ok (.aload_n 2, 1) := by decide +kernel
theorem dL_costOf_1 : decode cL_costOf 1 = .ok (.iconst 0, 1) := by decide +kernel
theorem dL_costOf_2 : decode cL_costOf 2 = .ok (.aload_n 0, 1) := by decide +kernel
theorem dL_costOf_3 : decode cL_costOf 3 = .ok (.iload_n 1, 1) := by decide +kernel
theorem dL_costOf_4 : decode cL_costOf 4 = .ok (.invokevirtual 103, 3) := by decide +kernel
theorem dL_costOf_7 : decode cL_costOf 7 = .ok (.lastore, 1) := by decide +kernel
theorem dL_costOf_8 : decode cL_costOf 8 = .ok (.goto 6, 3) := by decide +kernel
theorem dL_costOf_11 : decode cL_costOf 11 = .ok (.astore_n 3, 1) := by decide +kernel
theorem dL_costOf_12 : decode cL_costOf 12 = .ok (.iconst 1, 1) := by decide +kernel
theorem dL_costOf_13 : decode cL_costOf 13 = .ok (.ireturn, 1) := by decide +kernel
theorem dL_costOf_14 : decode cL_costOf 14 = .ok (.iconst 0, 1) := by decide +kernel
theorem dL_costOf_15 : decode cL_costOf 15 = .ok (.ireturn, 1) := by decide +kernel
theorem dL_proofAt_0 : decode cL_proofAt 0 = .ok (.aload_n 3, 1) := by decide +kernel
theorem dL_proofAt_1 : decode cL_proofAt 1 = .ok (.iconst 0, 1) := by decide +kernel
theorem dL_proofAt_2 : decode cL_proofAt 2 = .ok (.aload_n 0, 1) := by decide +kernel
theorem dL_proofAt_3 : decode cL_proofAt 3 = .ok (.iload_n 1, 1) := by decide +kernel
theorem dL_proofAt_4 : decode cL_proofAt 4 = .ok (.iload_n 2, 1) := by decide +kernel
theorem dL_proofAt_5 : decode cL_proofAt 5 = .ok (.invokevirtual 107, 3) := by decide +kernel
theorem dL_proofAt_8 : decode cL_proofAt 8 = .ok (.i2l, 1) := by decide +kernel
theorem dL_proofAt_9 : decode cL_proofAt 9 = .ok (.lastore, 1) := by decide +kernel
theorem dL_proofAt_10 : decode cL_proofAt 10 = .ok (.goto 11, 3) := by decide +kernel
theorem dL_proofAt_13 : decode cL_proofAt 13 = .ok (.astore 4, 2) := by decide +kernel
theorem dL_proofAt_15 : decode cL_proofAt 15 = .ok (.iconst 1, 1) := by decide +kernel
theorem dL_proofAt_16 : decode cL_proofAt 16 = .ok (.ireturn, 1) := by decide +kernel
theorem dL_proofAt_17 : decode cL_proofAt 17 = .ok (.astore 4, 2) := by decide +kernel
theorem dL_proofAt_19 : decode cL_proofAt 19 = .ok (.iconst 2, 1) := by decide +kernel
theorem dL_proofAt_20 : decode cL_proofAt 20 = .ok (.ireturn, 1) := by decide +kernel
theorem dL_proofAt_21 : decode cL_proofAt 21 = .ok (.iconst 0, 1) := by decide +kernel
theorem dL_proofAt_22 : decode cL_proofAt 22 = .ok (.ireturn, 1) := by decide +kernel
theorem dL_returnShare_0 : decode cL_returnShare 0 = .ok (.aload_n 1, 1) := by decide +kernel
theorem dL_returnShare_1 : decode cL_returnShare 1 = .ok (.iconst 0, 1) := by decide +kernel
theorem dL_returnShare_2 : decode cL_returnShare 2 = .ok (.aload_n 0, 1) := by decide +kernel
theorem dL_returnShare_3 : decode cL_returnShare 3 = .ok (.invokevirtual 110, 3) := by decide +kernel
theorem dL_returnShare_6 : decode cL_returnShare 6 = .ok (.f2d, 1) := by decide +kernel
theorem dL_returnShare_7 : decode cL_returnShare 7 = .ok (.dastore, 1) := by decide +kernel
theorem dL_returnShare_8 : decode cL_returnShare 8 = .ok (.goto 6, 3) := by decide +kernel
theorem dL_returnShare_11 : decode cL_returnShare 11 = .ok (.astore_n 2, 1) := by decide +kernel
theorem dL_returnShare_12 : decode cL_returnShare 12 = .ok (.iconst 1, 1) := by decide +kernel
theorem dL_returnShare_13 : decode cL_returnShare 13 = .ok (.ireturn, 1) := by decide +kernel
theorem dL_returnShare_14 : decode cL_returnShare 14 = .ok (.iconst 0, 1) := by decide +kernel
theorem dL_returnShare_15 : decode cL_returnShare 15 = .ok (.ireturn, 1) := by decide +kernel
theorem dL_meanPages_0 : decode cL_meanPages 0 = .ok (.aload_n 1, 1) := by decide +kernel
theorem dL_meanPages_1 : decode cL_meanPages 1 = .ok (.iconst 0, 1) := by decide +kernel
theorem dL_meanPages_2 : decode cL_meanPages 2 = .ok (.aload_n 0, 1) := by decide +kernel
theorem dL_meanPages_3 : decode cL_meanPages 3 = .ok (.invokevirtual 116, 3) := by decide +kernel
theorem dL_meanPages_6 : decode cL_meanPages 6 = .ok (.dastore, 1) := by decide +kernel
theorem dL_meanPages_7 : decode cL_meanPages 7 = .ok (.goto 6, 3) := by decide +kernel
theorem dL_meanPages_10 : decode cL_meanPages 10 = .ok (.astore_n 2, 1) := by decide +kernel
theorem dL_meanPages_11 : decode cL_meanPages 11 = .ok (.iconst 1, 1) := by decide +kernel
theorem dL_meanPages_12 : decode cL_meanPages 12 = .ok (.ireturn, 1) := by decide +kernel
theorem dL_meanPages_13 : decode cL_meanPages 13 = .ok (.iconst 0, 1) := by decide +kernel
theorem dL_meanPages_14 : decode cL_meanPages 14 = .ok (.ireturn, 1) := by decide +kernel
