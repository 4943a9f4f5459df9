theorem dX0_init_0 : decode cX0_init 0 = .ok (.aload_n 0, 1) := by decide +kernel
theorem dX0_init_1 : decode cX0_init 1 = .ok (.invokespecial 3, 3) := by decide +kernel
theorem dX0_init_4 : decode cX0_init 4 = .ok (.aload_n 0, 1) := by decide +kernel
theorem dX0_init_5 : decode cX0_init 5 = .ok (.bipush 7, 2) := by decide +kernel
theorem dX0_init_7 : decode cX0_init 7 = .ok (.newarray .int, 2) := by decide +kernel
theorem dX0_init_9 : decode cX0_init 9 = .ok (.putfield 11, 3) := by decide +kernel
theorem dX0_init_12 : decode cX0_init 12 = .ok (.aload_n 0, 1) := by decide +kernel
theorem dX0_init_13 : decode cX0_init 13 = .ok (.new 15, 3) := by decide +kernel
theorem dX0_init_16 : decode cX0_init 16 = .ok (.dup, 1) := by decide +kernel
theorem dX0_init_17 : decode cX0_init 17 = .ok (.invokespecial 17, 3) := by decide +kernel
theorem dX0_init_20 : decode cX0_init 20 = .ok (.putfield 18, 3) := by decide +kernel
theorem dX0_init_23 : decode cX0_init 23 = .ok (.aload_n 0, 1) := by decide +kernel
theorem dX0_init_24 : decode cX0_init 24 = .ok (.new 15, 3) := by decide +kernel
theorem dX0_init_27 : decode cX0_init 27 = .ok (.dup, 1) := by decide +kernel
theorem dX0_init_28 : decode cX0_init 28 = .ok (.invokespecial 17, 3) := by decide +kernel
theorem dX0_init_31 : decode cX0_init 31 = .ok (.putfield 22, 3) := by decide +kernel
theorem dX0_init_34 : decode cX0_init 34 = .ok (.aload_n 0, 1) := by decide +kernel
theorem dX0_init_35 : decode cX0_init 35 = .ok (.bipush 6, 2) := by decide +kernel
theorem dX0_init_37 : decode cX0_init 37 = .ok (.newarray .long, 2) := by decide +kernel
theorem dX0_init_39 : decode cX0_init 39 = .ok (.putfield 25, 3) := by decide +kernel
theorem dX0_init_42 : decode cX0_init 42 = .ok (.aload_n 0, 1) := by decide +kernel
theorem dX0_init_43 : decode cX0_init 43 = .ok (.bipush 6, 2) := by decide +kernel
theorem dX0_init_45 : decode cX0_init 45 = .ok (.newarray .long, 2) := by decide +kernel
theorem dX0_init_47 : decode cX0_init 47 = .ok (.putfield 29, 3) := by decide +kernel
theorem dX0_init_50 : decode cX0_init 50 = .ok (.aload_n 0, 1) := by decide +kernel
theorem dX0_init_51 : decode cX0_init 51 = .ok (.bipush 6, 2) := by decide +kernel
theorem dX0_init_53 : decode cX0_init 53 = .ok (.newarray .long, 2) := by decide +kernel
theorem dX0_init_55 : decode cX0_init 55 = .ok (.putfield 32, 3) := by decide +kernel
theorem dX0_init_58 : decode cX0_init 58 = .ok (.aload_n 0, 1) := by decide +kernel
theorem dX0_init_59 : decode cX0_init 59 = .ok (.bipush 6, 2) := by decide +kernel
theorem dX0_init_61 : decode cX0_init 61 = .ok (.newarray .long, 2) := by decide +kernel
theorem dX0_init_63 : decode cX0_init 63 = .ok (.putfield 35, 3) := by decide +kernel
theorem dX0_init_66 : decode cX0_init 66 = .ok (.return_, 1) := by decide +kernel
theorem dX0_read_0 : decode cX0_read 0 = .ok (.iconst 0, 1) := by decide +kernel
theorem dX0_read_1 : decode cX0_read 1 = .ok (.istore 4, 2) := by decide +kernel
theorem dX0_read_3 : decode cX0_read 3 = .ok (.iload 4, 2) := by decide +kernel
theorem dX0_read_5 : decode cX0_read 5 = .ok (.bipush 7, 2) := by decide +kernel
theorem dX0_read_7 : decode cX0_read 7 = .ok (.if_icmp .ge 39, 3) := by decide +kernel
theorem dX0_read_10 : decode cX0_read 10 = .ok (.aload_n 0, 1) := by decide +kernel
theorem dX0_read_11 : decode cX0_read 11 = .ok (.getfield 11, 3) := by decide +kernel
theorem dX0_read_14 : decode cX0_read 14 = .ok (.iload 4, 2) := by decide +kernel
theorem dX0_read_16 : decode cX0_read 16 = .ok (.aload_n 2, 1) := by decide +kernel
theorem dX0_read_17 : decode cX0_read 17 = .ok (.iload_n 3, 1) := by decide +kernel
theorem dX0_read_18 : decode cX0_read 18 = .ok (.iload 4, 2) := by decide +kernel
theorem dX0_read_20 : decode cX0_read 20 = .ok (.iadd, 1) := by decide +kernel
theorem dX0_read_21 : decode cX0_read 21 = .ok (.laload, 1) := by decide +kernel
theorem dX0_read_22 : decode cX0_read 22 = .ok (.l2i, 1) := by decide +kernel
theorem dX0_read_23 : decode cX0_read 23 = .ok (.iastore, 1) := by decide +kernel
theorem dX0_read_24 : decode cX0_read 24 = .ok (.aload_n 1, 1) := by decide +kernel
theorem dX0_read_25 : decode cX0_read 25 = .ok (.aload_n 0, 1) := by decide +kernel
theorem dX0_read_26 : decode cX0_read 26 = .ok (.getfield 11, 3) := by decide +kernel
theorem dX0_read_29 : decode cX0_read 29 = .ok (.iload 4, 2) := by decide +kernel
theorem dX0_read_31 : decode cX0_read 31 = .ok (.iaload, 1) := by decide +kernel
theorem dX0_read_32 : decode cX0_read 32 = .ok (.invokevirtual 38, 3) := by decide +kernel
theorem dX0_read_35 : decode cX0_read 35 = .ok (.ifCond .ne 5, 3) := by decide +kernel
theorem dX0_read_38 : decode cX0_read 38 = .ok (.iconst 0, 1) := by decide +kernel
theorem dX0_read_39 : decode cX0_read 39 = .ok (.ireturn, 1) := by decide +kernel
theorem dX0_read_40 : decode cX0_read 40 = .ok (.iinc 4 1, 3) := by decide +kernel
theorem dX0_read_43 : decode cX0_read 43 = .ok (.goto (-40), 3) := by decide +kernel
theorem dX0_read_46 : decode cX0_read 46 = .ok (.aload_n 0, 1) := by decide +kernel
theorem dX0_read_47 : decode cX0_read 47 = .ok (.aload_n 1, 1) := by decide +kernel
theorem dX0_read_48 : decode cX0_read 48 = .ok (.iconst 0, 1) := by decide +kernel
theorem dX0_read_49 : decode cX0_read 49 = .ok (.invokevirtual 44, 3) := by decide +kernel
theorem dX0_read_52 : decode cX0_read 52 = .ok (.aload_n 0, 1) := by decide +kernel
theorem dX0_read_53 : decode cX0_read 53 = .ok (.aload_n 1, 1) := by decide +kernel
theorem dX0_read_54 : decode cX0_read 54 = .ok (.iconst 1, 1) := by decide +kernel
theorem dX0_read_55 : decode cX0_read 55 = .ok (.invokevirtual 48, 3) := by decide +kernel
theorem dX0_read_58 : decode cX0_read 58 = .ok (.if_icmp .ne 114, 3) := by decide +kernel
theorem dX0_read_61 : decode cX0_read 61 = .ok (.aload_n 0, 1) := by decide +kernel
theorem dX0_read_62 : decode cX0_read 62 = .ok (.aload_n 1, 1) := by decide +kernel
theorem dX0_read_63 : decode cX0_read 63 = .ok (.iconst 0, 1) := by decide +kernel
theorem dX0_read_64 : decode cX0_read 64 = .ok (.invokevirtual 44, 3) := by decide +kernel
theorem dX0_read_67 : decode cX0_read 67 = .ok (.aload_n 0, 1) := by decide +kernel
theorem dX0_read_68 : decode cX0_read 68 = .ok (.aload_n 1, 1) := by decide +kernel
theorem dX0_read_69 : decode cX0_read 69 = .ok (.iconst 5, 1) := by decide +kernel
theorem dX0_read_70 : decode cX0_read 70 = .ok (.invokevirtual 48, 3) := by decide +kernel
theorem dX0_read_73 : decode cX0_read 73 = .ok (.if_icmp .ne 99, 3) := by decide +kernel
theorem dX0_read_76 : decode cX0_read 76 = .ok (.aload_n 0, 1) := by decide +kernel
theorem dX0_read_77 : decode cX0_read 77 = .ok (.aload_n 1, 1) := by decide +kernel
theorem dX0_read_78 : decode cX0_read 78 = .ok (.iconst 2, 1) := by decide +kernel
theorem dX0_read_79 : decode cX0_read 79 = .ok (.invokevirtual 44, 3) := by decide +kernel
theorem dX0_read_82 : decode cX0_read 82 = .ok (.aload_n 0, 1) := by decide +kernel
theorem dX0_read_83 : decode cX0_read 83 = .ok (.aload_n 1, 1) := by decide +kernel
theorem dX0_read_84 : decode cX0_read 84 = .ok (.iconst 3, 1) := by decide +kernel
theorem dX0_read_85 : decode cX0_read 85 = .ok (.invokevirtual 48, 3) := by decide +kernel
theorem dX0_read_88 : decode cX0_read 88 = .ok (.if_icmp .ne 84, 3) := by decide +kernel
theorem dX0_read_91 : decode cX0_read 91 = .ok (.aload_n 0, 1) := by decide +kernel
theorem dX0_read_92 : decode cX0_read 92 = .ok (.aload_n 1, 1) := by decide +kernel
theorem dX0_read_93 : decode cX0_read 93 = .ok (.iconst 2, 1) := by decide +kernel
theorem dX0_read_94 : decode cX0_read 94 = .ok (.invokevirtual 44, 3) := by decide +kernel
theorem dX0_read_97 : decode cX0_read 97 = .ok (.aload_n 0, 1) := by decide +kernel
theorem dX0_read_98 : decode cX0_read 98 = .ok (.aload_n 1, 1) := by decide +kernel
theorem dX0_read_99 : decode cX0_read 99 = .ok (.iconst 5, 1) := by decide +kernel
theorem dX0_read_100 : decode cX0_read 100 = .ok (.invokevirtual 44, 3) := by decide +kernel
theorem dX0_read_103 : decode cX0_read 103 = .ok (.if_icmp .ne 69, 3) := by decide +kernel
theorem dX0_read_106 : decode cX0_read 106 = .ok (.aload_n 0, 1) := by decide +kernel
theorem dX0_read_107 : decode cX0_read 107 = .ok (.aload_n 1, 1) := by decide +kernel
theorem dX0_read_108 : decode cX0_read 108 = .ok (.iconst 0, 1) := by decide +kernel
theorem dX0_read_109 : decode cX0_read 109 = .ok (.invokevirtual 48, 3) := by decide +kernel
theorem dX0_read_112 : decode cX0_read 112 = .ok (.aload_n 0, 1) := by decide +kernel
theorem dX0_read_113 : decode cX0_read 113 = .ok (.aload_n 1, 1) := by decide +kernel
theorem dX0_read_114 : decode cX0_read 114 = .ok (.iconst 4, 1) := by decide +kernel
theorem dX0_read_115 : decode cX0_read 115 = .ok (.invokevirtual 48, 3) := by decide +kernel
theorem dX0_read_118 : decode cX0_read 118 = .ok (.if_icmp .ne 54, 3) := by decide +kernel
theorem dX0_read_121 : decode cX0_read 121 = .ok (.aload_n 0, 1) := by decide +kernel
theorem dX0_read_122 : decode cX0_read 122 = .ok (.aload_n 1, 1) := by decide +kernel
theorem dX0_read_123 : decode cX0_read 123 = .ok (.iconst 4, 1) := by decide +kernel
theorem dX0_read_124 : decode cX0_read 124 = .ok (.invokevirtual 44, 3) := by decide +kernel
theorem dX0_read_127 : decode cX0_read 127 = .ok (.aload_n 0, 1) := by decide +kernel
theorem dX0_read_128 : decode cX0_read 128 = .ok (.aload_n 1, 1) := by decide +kernel
theorem dX0_read_129 : decode cX0_read 129 = .ok (.iconst 2, 1) := by decide +kernel
theorem dX0_read_130 : decode cX0_read 130 = .ok (.invokevirtual 48, 3) := by decide +kernel
theorem dX0_read_133 : decode cX0_read 133 = .ok (.if_icmp .ne 39, 3) := by decide +kernel
theorem dX0_read_136 : decode cX0_read 136 = .ok (.aload_n 0, 1) := by decide +kernel
theorem dX0_read_137 : decode cX0_read 137 = .ok (.aload_n 1, 1) := by decide +kernel
theorem dX0_read_138 : decode cX0_read 138 = .ok (.iconst 1, 1) := by decide +kernel
theorem dX0_read_139 : decode cX0_read 139 = .ok (.invokevirtual 44, 3) := by decide +kernel
theorem dX0_read_142 : decode cX0_read 142 = .ok (.aload_n 0, 1) := by decide +kernel
theorem dX0_read_143 : decode cX0_read 143 = .ok (.aload_n 1, 1) := by decide +kernel
theorem dX0_read_144 : decode cX0_read 144 = .ok (.bipush 6, 2) := by decide +kernel
theorem dX0_read_146 : decode cX0_read 146 = .ok (.invokevirtual 48, 3) := by decide +kernel
theorem dX0_read_149 : decode cX0_read 149 = .ok (.if_icmp .ne 23, 3) := by decide +kernel
theorem dX0_read_152 : decode cX0_read 152 = .ok (.aload_n 0, 1) := by decide +kernel
theorem dX0_read_153 : decode cX0_read 153 = .ok (.aload_n 1, 1) := by decide +kernel
theorem dX0_read_154 : decode cX0_read 154 = .ok (.bipush 6, 2) := by decide +kernel
theorem dX0_read_156 : decode cX0_read 156 = .ok (.invokevirtual 44, 3) := by decide +kernel
theorem dX0_read_159 : decode cX0_read 159 = .ok (.aload_n 0, 1) := by decide +kernel
theorem dX0_read_160 : decode cX0_read 160 = .ok (.aload_n 1, 1) := by decide +kernel
theorem dX0_read_161 : decode cX0_read 161 = .ok (.iconst 3, 1) := by decide +kernel
theorem dX0_read_162 : decode cX0_read 162 = .ok (.invokevirtual 44, 3) := by decide +kernel
theorem dX0_read_165 : decode cX0_read 165 = .ok (.if_icmp .ne 7, 3) := by decide +kernel
theorem dX0_read_168 : decode cX0_read 168 = .ok (.iconst 1, 1) := by decide +kernel
theorem dX0_read_169 : decode cX0_read 169 = .ok (.goto 4, 3) := by decide +kernel
theorem dX0_read_172 : decode cX0_read 172 = .ok (.iconst 0, 1) := by decide +kernel
theorem dX0_read_173 : decode cX0_read 173 = .ok (.ireturn, 1) := by decide +kernel
theorem dX0_from_0 : decode cX0_from 0 = .ok (.aload_n 1, 1) := by decide +kernel
theorem dX0_from_1 : decode cX0_from 1 = .ok (.getfield 51, 3) := by decide +kernel
theorem dX0_from_4 : decode cX0_from 4 = .ok (.aload_n 0, 1) := by decide +kernel
theorem dX0_from_5 : decode cX0_from 5 = .ok (.getfield 11, 3) := by decide +kernel
theorem dX0_from_8 : decode cX0_from 8 = .ok (.iload_n 2, 1) := by decide +kernel
theorem dX0_from_9 : decode cX0_from 9 = .ok (.iaload, 1) := by decide +kernel
theorem dX0_from_10 : decode cX0_from 10 = .ok (.iaload, 1) := by decide +kernel
theorem dX0_from_11 : decode cX0_from 11 = .ok (.ireturn, 1) := by decide +kernel
theorem dX0_to_0 : decode cX0_to 0 = .ok (.aload_n 1, 1) := by decide +kernel
theorem dX0_to_1 : decode cX0_to 1 = .ok (.getfield 53, 3) := by decide +kernel
theorem dX0_to_4 : decode cX0_to 4 = .ok (.aload_n 0, 1) := by decide +kernel
theorem dX0_to_5 : decode cX0_to 5 = .ok (.getfield 11, 3) := by decide +kernel
theorem dX0_to_8 : decode cX0_to 8 = .ok (.iload_n 2, 1) := by decide +kernel
theorem dX0_to_9 : decode cX0_to 9 = .ok (.iaload, 1) := by decide +kernel
theorem dX0_to_10 : decode cX0_to 10 = .ok (.iaload, 1) := by decide +kernel
theorem dX0_to_11 : decode cX0_to 11 = .ok (.ireturn, 1) := by decide +kernel
theorem dX0_lowerFirst_0 : decode cX0_lowerFirst 0 = .ok (.aload_n 0, 1) := by decide +kernel
theorem dX0_lowerFirst_1 : decode cX0_lowerFirst 1 = .ok (.aload_n 1, 1) := by decide +kernel
theorem dX0_lowerFirst_2 : decode cX0_lowerFirst 2 = .ok (.iconst 2, 1) := by decide +kernel
theorem dX0_lowerFirst_3 : decode cX0_lowerFirst 3 = .ok (.invokevirtual 48, 3) := by decide +kernel
theorem dX0_lowerFirst_6 : decode cX0_lowerFirst 6 = .ok (.ireturn, 1) := by decide +kernel
theorem dX0_upperLast_0 : decode cX0_upperLast 0 = .ok (.aload_n 0, 1) := by decide +kernel
theorem dX0_upperLast_1 : decode cX0_upperLast 1 = .ok (.aload_n 1, 1) := by decide +kernel
theorem dX0_upperLast_2 : decode cX0_upperLast 2 = .ok (.iconst 1, 1) := by decide +kernel
theorem dX0_upperLast_3 : decode cX0_upperLast 3 = .ok (.invokevirtual 44, 3) := by decide +kernel
theorem dX0_upperLast_6 : decode cX0_upperLast 6 = .ok (.ireturn, 1) := by decide +kernel
theorem dX0_isRight_0 : decode cX0_isRight 0 = .ok (.iconst 0, 1) := by decide +kernel
theorem dX0_isRight_1 : decode cX0_isRight 1 = .ok (.istore_n 2, 1) := by decide +kernel
theorem dX0_isRight_2 : decode cX0_isRight 2 = .ok (.iload_n 2, 1) := by decide +kernel
theorem dX0_isRight_3 : decode cX0_isRight 3 = .ok (.bipush 7, 2) := by decide +kernel
theorem dX0_isRight_5 : decode cX0_isRight 5 = .ok (.if_icmp .ge 28, 3) := by decide +kernel
theorem dX0_isRight_8 : decode cX0_isRight 8 = .ok (.aload_n 0, 1) := by decide +kernel
theorem dX0_isRight_9 : decode cX0_isRight 9 = .ok (.getfield 18, 3) := by decide +kernel
theorem dX0_isRight_12 : decode cX0_isRight 12 = .ok (.aload_n 1, 1) := by decide +kernel
theorem dX0_isRight_13 : decode cX0_isRight 13 = .ok (.aload_n 0, 1) := by decide +kernel
theorem dX0_isRight_14 : decode cX0_isRight 14 = .ok (.getfield 11, 3) := by decide +kernel
theorem dX0_isRight_17 : decode cX0_isRight 17 = .ok (.iload_n 2, 1) := by decide +kernel
theorem dX0_isRight_18 : decode cX0_isRight 18 = .ok (.iaload, 1) := by decide +kernel
theorem dX0_isRight_19 : decode cX0_isRight 19 = .ok (.invokevirtual 55, 3) := by decide +kernel
theorem dX0_isRight_22 : decode cX0_isRight 22 = .ok (.ifCond .ne 5, 3) := by decide +kernel
theorem dX0_isRight_25 : decode cX0_isRight 25 = .ok (.iconst 0, 1) := by decide +kernel
theorem dX0_isRight_26 : decode cX0_isRight 26 = .ok (.ireturn, 1) := by decide +kernel
theorem dX0_isRight_27 : decode cX0_isRight 27 = .ok (.iinc 2 1, 3) := by decide +kernel
theorem dX0_isRight_30 : decode cX0_isRight 30 = .ok (.goto (-28), 3) := by decide +kernel
theorem dX0_isRight_33 : decode cX0_isRight 33 = .ok (.aload_n 0, 1) := by decide +kernel
theorem dX0_isRight_34 : decode cX0_isRight 34 = .ok (.aload_n 1, 1) := by decide +kernel
theorem dX0_isRight_35 : decode cX0_isRight 35 = .ok (.iconst 0, 1) := by decide +kernel
theorem dX0_isRight_36 : decode cX0_isRight 36 = .ok (.iconst 1, 1) := by decide +kernel
theorem dX0_isRight_37 : decode cX0_isRight 37 = .ok (.invokevirtual 59, 3) := by decide +kernel
theorem dX0_isRight_40 : decode cX0_isRight 40 = .ok (.ifCond .eq 62, 3) := by decide +kernel
theorem dX0_isRight_43 : decode cX0_isRight 43 = .ok (.aload_n 0, 1) := by decide +kernel
theorem dX0_isRight_44 : decode cX0_isRight 44 = .ok (.getfield 22, 3) := by decide +kernel
theorem dX0_isRight_47 : decode cX0_isRight 47 = .ok (.invokevirtual 63, 3) := by decide +kernel
theorem dX0_isRight_50 : decode cX0_isRight 50 = .ok (.ifCond .eq 52, 3) := by decide +kernel
theorem dX0_isRight_53 : decode cX0_isRight 53 = .ok (.aload_n 0, 1) := by decide +kernel
theorem dX0_isRight_54 : decode cX0_isRight 54 = .ok (.aload_n 1, 1) := by decide +kernel
theorem dX0_isRight_55 : decode cX0_isRight 55 = .ok (.iconst 2, 1) := by decide +kernel
theorem dX0_isRight_56 : decode cX0_isRight 56 = .ok (.iconst 3, 1) := by decide +kernel
theorem dX0_isRight_57 : decode cX0_isRight 57 = .ok (.invokevirtual 59, 3) := by decide +kernel
theorem dX0_isRight_60 : decode cX0_isRight 60 = .ok (.ifCond .eq 42, 3) := by decide +kernel
theorem dX0_isRight_63 : decode cX0_isRight 63 = .ok (.aload_n 0, 1) := by decide +kernel
theorem dX0_isRight_64 : decode cX0_isRight 64 = .ok (.getfield 18, 3) := by decide +kernel
theorem dX0_isRight_67 : decode cX0_isRight 67 = .ok (.invokevirtual 67, 3) := by decide +kernel
theorem dX0_isRight_70 : decode cX0_isRight 70 = .ok (.ifCond .eq 32, 3) := by decide +kernel
theorem dX0_isRight_73 : decode cX0_isRight 73 = .ok (.aload_n 0, 1) := by decide +kernel
theorem dX0_isRight_74 : decode cX0_isRight 74 = .ok (.aload_n 1, 1) := by decide +kernel
theorem dX0_isRight_75 : decode cX0_isRight 75 = .ok (.iconst 0, 1) := by decide +kernel
theorem dX0_isRight_76 : decode cX0_isRight 76 = .ok (.iconst 5, 1) := by decide +kernel
theorem dX0_isRight_77 : decode cX0_isRight 77 = .ok (.iconst 4, 1) := by decide +kernel
theorem dX0_isRight_78 : decode cX0_isRight 78 = .ok (.iconst 2, 1) := by decide +kernel
theorem dX0_isRight_79 : decode cX0_isRight 79 = .ok (.invokevirtual 70, 3) := by decide +kernel
theorem dX0_isRight_82 : decode cX0_isRight 82 = .ok (.ifCond .eq 20, 3) := by decide +kernel
theorem dX0_isRight_85 : decode cX0_isRight 85 = .ok (.aload_n 0, 1) := by decide +kernel
theorem dX0_isRight_86 : decode cX0_isRight 86 = .ok (.aload_n 1, 1) := by decide +kernel
theorem dX0_isRight_87 : decode cX0_isRight 87 = .ok (.iconst 5, 1) := by decide +kernel
theorem dX0_isRight_88 : decode cX0_isRight 88 = .ok (.iconst 3, 1) := by decide +kernel
theorem dX0_isRight_89 : decode cX0_isRight 89 = .ok (.iconst 1, 1) := by decide +kernel
theorem dX0_isRight_90 : decode cX0_isRight 90 = .ok (.bipush 6, 2) := by decide +kernel
theorem dX0_isRight_92 : decode cX0_isRight 92 = .ok (.invokevirtual 70, 3) := by decide +kernel
theorem dX0_isRight_95 : decode cX0_isRight 95 = .ok (.ifCond .eq 7, 3) := by decide +kernel
theorem dX0_isRight_98 : decode cX0_isRight 98 = .ok (.iconst 1, 1) := by decide +kernel
theorem dX0_isRight_99 : decode cX0_isRight 99 = .ok (.goto 4, 3) := by decide +kernel
theorem dX0_isRight_102 : decode cX0_isRight 102 = .ok (.iconst 0, 1) := by decide +kernel
theorem dX0_isRight_103 : decode cX0_isRight 103 = .ok (.ireturn, 1) := by decide +kernel
theorem dX0_rowIsExact_0 : decode cX0_rowIsExact 0 = .ok (.aload_n 0, 1) := by decide +kernel
theorem dX0_rowIsExact_1 : decode cX0_rowIsExact 1 = .ok (.getfield 18, 3) := by decide +kernel
theorem dX0_rowIsExact_4 : decode cX0_rowIsExact 4 = .ok (.aload_n 1, 1) := by decide +kernel
theorem dX0_rowIsExact_5 : decode cX0_rowIsExact 5 = .ok (.aload_n 0, 1) := by decide +kernel
theorem dX0_rowIsExact_6 : decode cX0_rowIsExact 6 = .ok (.getfield 11, 3) := by decide +kernel
theorem dX0_rowIsExact_9 : decode cX0_rowIsExact 9 = .ok (.iload_n 2, 1) := by decide +kernel
theorem dX0_rowIsExact_10 : decode cX0_rowIsExact 10 = .ok (.iaload, 1) := by decide +kernel
theorem dX0_rowIsExact_11 : decode cX0_rowIsExact 11 = .ok (.invokevirtual 55, 3) := by decide +kernel
theorem dX0_rowIsExact_14 : decode cX0_rowIsExact 14 = .ok (.pop, 1) := by decide +kernel
theorem dX0_rowIsExact_15 : decode cX0_rowIsExact 15 = .ok (.aload_n 0, 1) := by decide +kernel
theorem dX0_rowIsExact_16 : decode cX0_rowIsExact 16 = .ok (.getfield 18, 3) := by decide +kernel
theorem dX0_rowIsExact_19 : decode cX0_rowIsExact 19 = .ok (.aload_n 1, 1) := by decide +kernel
theorem dX0_rowIsExact_20 : decode cX0_rowIsExact 20 = .ok (.aload_n 0, 1) := by decide +kernel
theorem dX0_rowIsExact_21 : decode cX0_rowIsExact 21 = .ok (.getfield 11, 3) := by decide +kernel
theorem dX0_rowIsExact_24 : decode cX0_rowIsExact 24 = .ok (.iload_n 2, 1) := by decide +kernel
theorem dX0_rowIsExact_25 : decode cX0_rowIsExact 25 = .ok (.iaload, 1) := by decide +kernel
theorem dX0_rowIsExact_26 : decode cX0_rowIsExact 26 = .ok (.invokevirtual 74, 3) := by decide +kernel
theorem dX0_rowIsExact_29 : decode cX0_rowIsExact 29 = .ok (.aload_n 0, 1) := by decide +kernel
theorem dX0_rowIsExact_30 : decode cX0_rowIsExact 30 = .ok (.getfield 22, 3) := by decide +kernel
theorem dX0_rowIsExact_33 : decode cX0_rowIsExact 33 = .ok (.aload_n 1, 1) := by decide +kernel
theorem dX0_rowIsExact_34 : decode cX0_rowIsExact 34 = .ok (.aload_n 0, 1) := by decide +kernel
theorem dX0_rowIsExact_35 : decode cX0_rowIsExact 35 = .ok (.getfield 11, 3) := by decide +kernel
theorem dX0_rowIsExact_38 : decode cX0_rowIsExact 38 = .ok (.iload_n 3, 1) := by decide +kernel
theorem dX0_rowIsExact_39 : decode cX0_rowIsExact 39 = .ok (.iaload, 1) := by decide +kernel
theorem dX0_rowIsExact_40 : decode cX0_rowIsExact 40 = .ok (.invokevirtual 55, 3) := by decide +kernel
theorem dX0_rowIsExact_43 : decode cX0_rowIsExact 43 = .ok (.pop, 1) := by decide +kernel
theorem dX0_rowIsExact_44 : decode cX0_rowIsExact 44 = .ok (.aload_n 0, 1) := by decide +kernel
theorem dX0_rowIsExact_45 : decode cX0_rowIsExact 45 = .ok (.getfield 22, 3) := by decide +kernel
theorem dX0_rowIsExact_48 : decode cX0_rowIsExact 48 = .ok (.aload_n 1, 1) := by decide +kernel
theorem dX0_rowIsExact_49 : decode cX0_rowIsExact 49 = .ok (.aload_n 0, 1) := by decide +kernel
theorem dX0_rowIsExact_50 : decode cX0_rowIsExact 50 = .ok (.getfield 11, 3) := by decide +kernel
theorem dX0_rowIsExact_53 : decode cX0_rowIsExact 53 = .ok (.iload_n 3, 1) := by decide +kernel
theorem dX0_rowIsExact_54 : decode cX0_rowIsExact 54 = .ok (.iaload, 1) := by decide +kernel
theorem dX0_rowIsExact_55 : decode cX0_rowIsExact 55 = .ok (.invokevirtual 74, 3) := by decide +kernel
theorem dX0_rowIsExact_58 : decode cX0_rowIsExact 58 = .ok (.aload_n 0, 1) := by decide +kernel
theorem dX0_rowIsExact_59 : decode cX0_rowIsExact 59 = .ok (.getfield 18, 3) := by decide +kernel
theorem dX0_rowIsExact_62 : decode cX0_rowIsExact 62 = .ok (.getfield 78, 3) := by decide +kernel
theorem dX0_rowIsExact_65 : decode cX0_rowIsExact 65 = .ok (.aload_n 0, 1) := by decide +kernel
theorem dX0_rowIsExact_66 : decode cX0_rowIsExact 66 = .ok (.getfield 22, 3) := by decide +kernel
theorem dX0_rowIsExact_69 : decode cX0_rowIsExact 69 = .ok (.getfield 82, 3) := by decide +kernel
theorem dX0_rowIsExact_72 : decode cX0_rowIsExact 72 = .ok (.invokevirtual 85, 3) := by decide +kernel
theorem dX0_rowIsExact_75 : decode cX0_rowIsExact 75 = .ok (.ireturn, 1) := by decide +kernel
theorem dX0_waysAgree_0 : decode cX0_waysAgree 0 = .ok (.aload_n 1, 1) := by decide +kernel
theorem dX0_waysAgree_1 : decode cX0_waysAgree 1 = .ok (.aload_n 0, 1) := by decide +kernel
theorem dX0_waysAgree_2 : decode cX0_waysAgree 2 = .ok (.aload_n 1, 1) := by decide +kernel
theorem dX0_waysAgree_3 : decode cX0_waysAgree 3 = .ok (.iload_n 3, 1) := by decide +kernel
theorem dX0_waysAgree_4 : decode cX0_waysAgree 4 = .ok (.invokevirtual 44, 3) := by decide +kernel
theorem dX0_waysAgree_7 : decode cX0_waysAgree 7 = .ok (.aload_n 0, 1) := by decide +kernel
theorem dX0_waysAgree_8 : decode cX0_waysAgree 8 = .ok (.getfield 18, 3) := by decide +kernel
theorem dX0_waysAgree_11 : decode cX0_waysAgree 11 = .ok (.getfield 91, 3) := by decide +kernel
theorem dX0_waysAgree_14 : decode cX0_waysAgree 14 = .ok (.invokevirtual 94, 3) := by decide +kernel
theorem dX0_waysAgree_17 : decode cX0_waysAgree 17 = .ok (.aload_n 1, 1) := by decide +kernel
theorem dX0_waysAgree_18 : decode cX0_waysAgree 18 = .ok (.getfield 98, 3) := by decide +kernel
theorem dX0_waysAgree_21 : decode cX0_waysAgree 21 = .ok (.aload_n 0, 1) := by decide +kernel
theorem dX0_waysAgree_22 : decode cX0_waysAgree 22 = .ok (.aload_n 1, 1) := by decide +kernel
theorem dX0_waysAgree_23 : decode cX0_waysAgree 23 = .ok (.iload_n 2, 1) := by decide +kernel
theorem dX0_waysAgree_24 : decode cX0_waysAgree 24 = .ok (.invokevirtual 48, 3) := by decide +kernel
theorem dX0_waysAgree_27 : decode cX0_waysAgree 27 = .ok (.iaload, 1) := by decide +kernel
theorem dX0_waysAgree_28 : decode cX0_waysAgree 28 = .ok (.istore 6, 2) := by decide +kernel
theorem dX0_waysAgree_30 : decode cX0_waysAgree 30 = .ok (.iconst 0, 1) := by decide +kernel
theorem dX0_waysAgree_31 : decode cX0_waysAgree 31 = .ok (.istore 7, 2) := by decide +kernel
theorem dX0_waysAgree_33 : decode cX0_waysAgree 33 = .ok (.iload 7, 2) := by decide +kernel
theorem dX0_waysAgree_35 : decode cX0_waysAgree 35 = .ok (.iload 6, 2) := by decide +kernel
theorem dX0_waysAgree_37 : decode cX0_waysAgree 37 = .ok (.if_icmp .ge 100, 3) := by decide +kernel
theorem dX0_waysAgree_40 : decode cX0_waysAgree 40 = .ok (.aload_n 0, 1) := by decide +kernel
theorem dX0_waysAgree_41 : decode cX0_waysAgree 41 = .ok (.getfield 25, 3) := by decide +kernel
theorem dX0_waysAgree_44 : decode cX0_waysAgree 44 = .ok (.lconst 0, 1) := by decide +kernel
theorem dX0_waysAgree_45 : decode cX0_waysAgree 45 = .ok (.invokestatic 101, 3) := by decide +kernel
theorem dX0_waysAgree_48 : decode cX0_waysAgree 48 = .ok (.aload_n 0, 1) := by decide +kernel
theorem dX0_waysAgree_49 : decode cX0_waysAgree 49 = .ok (.getfield 25, 3) := by decide +kernel
theorem dX0_waysAgree_52 : decode cX0_waysAgree 52 = .ok (.iload 7, 2) := by decide +kernel
theorem dX0_waysAgree_54 : decode cX0_waysAgree 54 = .ok (.lconst 1, 1) := by decide +kernel
theorem dX0_waysAgree_55 : decode cX0_waysAgree 55 = .ok (.lastore, 1) := by decide +kernel
theorem dX0_waysAgree_56 : decode cX0_waysAgree 56 = .ok (.aload_n 0, 1) := by decide +kernel
theorem dX0_waysAgree_57 : decode cX0_waysAgree 57 = .ok (.aload_n 1, 1) := by decide +kernel
theorem dX0_waysAgree_58 : decode cX0_waysAgree 58 = .ok (.iload_n 2, 1) := by decide +kernel
theorem dX0_waysAgree_59 : decode cX0_waysAgree 59 = .ok (.iload_n 3, 1) := by decide +kernel
theorem dX0_waysAgree_60 : decode cX0_waysAgree 60 = .ok (.aload_n 0, 1) := by decide +kernel
theorem dX0_waysAgree_61 : decode cX0_waysAgree 61 = .ok (.getfield 32, 3) := by decide +kernel
theorem dX0_waysAgree_64 : decode cX0_waysAgree 64 = .ok (.invokevirtual 107, 3) := by decide +kernel
theorem dX0_waysAgree_67 : decode cX0_waysAgree 67 = .ok (.aload_n 0, 1) := by decide +kernel
theorem dX0_waysAgree_68 : decode cX0_waysAgree 68 = .ok (.aload_n 1, 1) := by decide +kernel
theorem dX0_waysAgree_69 : decode cX0_waysAgree 69 = .ok (.iload 4, 2) := by decide +kernel
theorem dX0_waysAgree_71 : decode cX0_waysAgree 71 = .ok (.iload 5, 2) := by decide +kernel
theorem dX0_waysAgree_73 : decode cX0_waysAgree 73 = .ok (.aload_n 0, 1) := by decide +kernel
theorem dX0_waysAgree_74 : decode cX0_waysAgree 74 = .ok (.getfield 35, 3) := by decide +kernel
theorem dX0_waysAgree_77 : decode cX0_waysAgree 77 = .ok (.invokevirtual 107, 3) := by decide +kernel
theorem dX0_waysAgree_80 : decode cX0_waysAgree 80 = .ok (.iconst 0, 1) := by decide +kernel
theorem dX0_waysAgree_81 : decode cX0_waysAgree 81 = .ok (.istore 8, 2) := by decide +kernel
theorem dX0_waysAgree_83 : decode cX0_waysAgree 83 = .ok (.iload 8, 2) := by decide +kernel
theorem dX0_waysAgree_85 : decode cX0_waysAgree 85 = .ok (.iconst 3, 1) := by decide +kernel
theorem dX0_waysAgree_86 : decode cX0_waysAgree 86 = .ok (.if_icmp .ge 26, 3) := by decide +kernel
theorem dX0_waysAgree_89 : decode cX0_waysAgree 89 = .ok (.aload_n 0, 1) := by decide +kernel
theorem dX0_waysAgree_90 : decode cX0_waysAgree 90 = .ok (.getfield 32, 3) := by decide +kernel
theorem dX0_waysAgree_93 : decode cX0_waysAgree 93 = .ok (.iload 8, 2) := by decide +kernel
theorem dX0_waysAgree_95 : decode cX0_waysAgree 95 = .ok (.dup2, 1) := by decide +kernel
theorem dX0_waysAgree_96 : decode cX0_waysAgree 96 = .ok (.laload, 1) := by decide +kernel
theorem dX0_waysAgree_97 : decode cX0_waysAgree 97 = .ok (.aload_n 0, 1) := by decide +kernel
theorem dX0_waysAgree_98 : decode cX0_waysAgree 98 = .ok (.getfield 35, 3) := by decide +kernel
theorem dX0_waysAgree_101 : decode cX0_waysAgree 101 = .ok (.iload 8, 2) := by decide +kernel
theorem dX0_waysAgree_103 : decode cX0_waysAgree 103 = .ok (.laload, 1) := by decide +kernel
theorem dX0_waysAgree_104 : decode cX0_waysAgree 104 = .ok (.lsub, 1) := by decide +kernel
theorem dX0_waysAgree_105 : decode cX0_waysAgree 105 = .ok (.lastore, 1) := by decide +kernel
theorem dX0_waysAgree_106 : decode cX0_waysAgree 106 = .ok (.iinc 8 1, 3) := by decide +kernel
theorem dX0_waysAgree_109 : decode cX0_waysAgree 109 = .ok (.goto (-26), 3) := by decide +kernel
theorem dX0_waysAgree_112 : decode cX0_waysAgree 112 = .ok (.aload_n 0, 1) := by decide +kernel
theorem dX0_waysAgree_113 : decode cX0_waysAgree 113 = .ok (.getfield 18, 3) := by decide +kernel
theorem dX0_waysAgree_116 : decode cX0_waysAgree 116 = .ok (.getfield 91, 3) := by decide +kernel
theorem dX0_waysAgree_119 : decode cX0_waysAgree 119 = .ok (.aload_n 0, 1) := by decide +kernel
theorem dX0_waysAgree_120 : decode cX0_waysAgree 120 = .ok (.getfield 32, 3) := by decide +kernel
theorem dX0_waysAgree_123 : decode cX0_waysAgree 123 = .ok (.invokevirtual 111, 3) := by decide +kernel
theorem dX0_waysAgree_126 : decode cX0_waysAgree 126 = .ok (.ifCond .ne 5, 3) := by decide +kernel
theorem dX0_waysAgree_129 : decode cX0_waysAgree 129 = .ok (.iconst 0, 1) := by decide +kernel
theorem dX0_waysAgree_130 : decode cX0_waysAgree 130 = .ok (.ireturn, 1) := by decide +kernel
theorem dX0_waysAgree_131 : decode cX0_waysAgree 131 = .ok (.iinc 7 1, 3) := by decide +kernel
theorem dX0_waysAgree_134 : decode cX0_waysAgree 134 = .ok (.goto (-101), 3) := by decide +kernel
theorem dX0_waysAgree_137 : decode cX0_waysAgree 137 = .ok (.iconst 1, 1) := by decide +kernel
theorem dX0_waysAgree_138 : decode cX0_waysAgree 138 = .ok (.ireturn, 1) := by decide +kernel
theorem dX0_goBoth_0 : decode cX0_goBoth 0 = .ok (.aload_n 1, 1) := by decide +kernel
theorem dX0_goBoth_1 : decode cX0_goBoth 1 = .ok (.aload_n 0, 1) := by decide +kernel
theorem dX0_goBoth_2 : decode cX0_goBoth 2 = .ok (.getfield 11, 3) := by decide +kernel
theorem dX0_goBoth_5 : decode cX0_goBoth 5 = .ok (.iload_n 2, 1) := by decide +kernel
theorem dX0_goBoth_6 : decode cX0_goBoth 6 = .ok (.iaload, 1) := by decide +kernel
theorem dX0_goBoth_7 : decode cX0_goBoth 7 = .ok (.aload_n 0, 1) := by decide +kernel
theorem dX0_goBoth_8 : decode cX0_goBoth 8 = .ok (.getfield 25, 3) := by decide +kernel
theorem dX0_goBoth_11 : decode cX0_goBoth 11 = .ok (.aload_n 0, 1) := by decide +kernel
theorem dX0_goBoth_12 : decode cX0_goBoth 12 = .ok (.getfield 29, 3) := by decide +kernel
theorem dX0_goBoth_15 : decode cX0_goBoth 15 = .ok (.invokevirtual 115, 3) := by decide +kernel
theorem dX0_goBoth_18 : decode cX0_goBoth 18 = .ok (.aload_n 1, 1) := by decide +kernel
theorem dX0_goBoth_19 : decode cX0_goBoth 19 = .ok (.aload_n 0, 1) := by decide +kernel
theorem dX0_goBoth_20 : decode cX0_goBoth 20 = .ok (.getfield 11, 3) := by decide +kernel
theorem dX0_goBoth_23 : decode cX0_goBoth 23 = .ok (.iload_n 3, 1) := by decide +kernel
theorem dX0_goBoth_24 : decode cX0_goBoth 24 = .ok (.iaload, 1) := by decide +kernel
theorem dX0_goBoth_25 : decode cX0_goBoth 25 = .ok (.aload_n 0, 1) := by decide +kernel
theorem dX0_goBoth_26 : decode cX0_goBoth 26 = .ok (.getfield 29, 3) := by decide +kernel
theorem dX0_goBoth_29 : decode cX0_goBoth 29 = .ok (.aload 4, 2) := by decide +kernel
theorem dX0_goBoth_31 : decode cX0_goBoth 31 = .ok (.invokevirtual 115, 3) := by decide +kernel
theorem dX0_goBoth_34 : decode cX0_goBoth 34 = .ok (.return_, 1) := by decide +kernel
theorem dX0_connect_0 : decode cX0_connect 0 = .ok (.aload_n 1, 1) := by decide +kernel
theorem dX0_connect_1 : decode cX0_connect 1 = .ok (.aload_n 0, 1) := by decide +kernel
theorem dX0_connect_2 : decode cX0_connect 2 = .ok (.getfield 11, 3) := by decide +kernel
theorem dX0_connect_5 : decode cX0_connect 5 = .ok (.bipush 6, 2) := by decide +kernel
theorem dX0_connect_7 : decode cX0_connect 7 = .ok (.iaload, 1) := by decide +kernel
theorem dX0_connect_8 : decode cX0_connect 8 = .ok (.aload_n 2, 1) := by decide +kernel
theorem dX0_connect_9 : decode cX0_connect 9 = .ok (.aload_n 0, 1) := by decide +kernel
theorem dX0_connect_10 : decode cX0_connect 10 = .ok (.getfield 32, 3) := by decide +kernel
theorem dX0_connect_13 : decode cX0_connect 13 = .ok (.invokevirtual 115, 3) := by decide +kernel
theorem dX0_connect_16 : decode cX0_connect 16 = .ok (.aload_n 1, 1) := by decide +kernel
theorem dX0_connect_17 : decode cX0_connect 17 = .ok (.aload_n 0, 1) := by decide +kernel
theorem dX0_connect_18 : decode cX0_connect 18 = .ok (.aload_n 1, 1) := by decide +kernel
theorem dX0_connect_19 : decode cX0_connect 19 = .ok (.bipush 6, 2) := by decide +kernel
theorem dX0_connect_21 : decode cX0_connect 21 = .ok (.invokevirtual 44, 3) := by decide +kernel
theorem dX0_connect_24 : decode cX0_connect 24 = .ok (.aload_n 0, 1) := by decide +kernel
theorem dX0_connect_25 : decode cX0_connect 25 = .ok (.getfield 18, 3) := by decide +kernel
theorem dX0_connect_28 : decode cX0_connect 28 = .ok (.getfield 91, 3) := by decide +kernel
theorem dX0_connect_31 : decode cX0_connect 31 = .ok (.invokevirtual 94, 3) := by decide +kernel
theorem dX0_connect_34 : decode cX0_connect 34 = .ok (.aload_n 0, 1) := by decide +kernel
theorem dX0_connect_35 : decode cX0_connect 35 = .ok (.getfield 18, 3) := by decide +kernel
theorem dX0_connect_38 : decode cX0_connect 38 = .ok (.getfield 91, 3) := by decide +kernel
theorem dX0_connect_41 : decode cX0_connect 41 = .ok (.aload_n 0, 1) := by decide +kernel
theorem dX0_connect_42 : decode cX0_connect 42 = .ok (.getfield 32, 3) := by decide +kernel
theorem dX0_connect_45 : decode cX0_connect 45 = .ok (.invokevirtual 111, 3) := by decide +kernel
theorem dX0_connect_48 : decode cX0_connect 48 = .ok (.ifCond .ne 5, 3) := by decide +kernel
theorem dX0_connect_51 : decode cX0_connect 51 = .ok (.iconst 0, 1) := by decide +kernel
theorem dX0_connect_52 : decode cX0_connect 52 = .ok (.ireturn, 1) := by decide +kernel
theorem dX0_connect_53 : decode cX0_connect 53 = .ok (.aload_n 0, 1) := by decide +kernel
theorem dX0_connect_54 : decode cX0_connect 54 = .ok (.getfield 18, 3) := by decide +kernel
theorem dX0_connect_57 : decode cX0_connect 57 = .ok (.aload_n 1, 1) := by decide +kernel
theorem dX0_connect_58 : decode cX0_connect 58 = .ok (.aload_n 0, 1) := by decide +kernel
theorem dX0_connect_59 : decode cX0_connect 59 = .ok (.getfield 11, 3) := by decide +kernel
theorem dX0_connect_62 : decode cX0_connect 62 = .ok (.iconst 1, 1) := by decide +kernel
theorem dX0_connect_63 : decode cX0_connect 63 = .ok (.iaload, 1) := by decide +kernel
theorem dX0_connect_64 : decode cX0_connect 64 = .ok (.invokevirtual 55, 3) := by decide +kernel
theorem dX0_connect_67 : decode cX0_connect 67 = .ok (.pop, 1) := by decide +kernel
theorem dX0_connect_68 : decode cX0_connect 68 = .ok (.aload_n 0, 1) := by decide +kernel
theorem dX0_connect_69 : decode cX0_connect 69 = .ok (.getfield 18, 3) := by decide +kernel
theorem dX0_connect_72 : decode cX0_connect 72 = .ok (.aload_n 1, 1) := by decide +kernel
theorem dX0_connect_73 : decode cX0_connect 73 = .ok (.aload_n 0, 1) := by decide +kernel
theorem dX0_connect_74 : decode cX0_connect 74 = .ok (.getfield 11, 3) := by decide +kernel
theorem dX0_connect_77 : decode cX0_connect 77 = .ok (.iconst 1, 1) := by decide +kernel
theorem dX0_connect_78 : decode cX0_connect 78 = .ok (.iaload, 1) := by decide +kernel
theorem dX0_connect_79 : decode cX0_connect 79 = .ok (.invokevirtual 74, 3) := by decide +kernel
theorem dX0_connect_82 : decode cX0_connect 82 = .ok (.aload_n 0, 1) := by decide +kernel
theorem dX0_connect_83 : decode cX0_connect 83 = .ok (.getfield 18, 3) := by decide +kernel
theorem dX0_connect_86 : decode cX0_connect 86 = .ok (.aload_n 2, 1) := by decide +kernel
theorem dX0_connect_87 : decode cX0_connect 87 = .ok (.invokevirtual 119, 3) := by decide +kernel
theorem dX0_connect_90 : decode cX0_connect 90 = .ok (.ifCond .ne 5, 3) := by decide +kernel
theorem dX0_connect_93 : decode cX0_connect 93 = .ok (.iconst 0, 1) := by decide +kernel
theorem dX0_connect_94 : decode cX0_connect 94 = .ok (.ireturn, 1) := by decide +kernel
theorem dX0_connect_95 : decode cX0_connect 95 = .ok (.aload_n 1, 1) := by decide +kernel
theorem dX0_connect_96 : decode cX0_connect 96 = .ok (.aload_n 0, 1) := by decide +kernel
theorem dX0_connect_97 : decode cX0_connect 97 = .ok (.getfield 11, 3) := by decide +kernel
theorem dX0_connect_100 : decode cX0_connect 100 = .ok (.iconst 5, 1) := by decide +kernel
theorem dX0_connect_101 : decode cX0_connect 101 = .ok (.iaload, 1) := by decide +kernel
theorem dX0_connect_102 : decode cX0_connect 102 = .ok (.aload_n 2, 1) := by decide +kernel
theorem dX0_connect_103 : decode cX0_connect 103 = .ok (.aload_n 0, 1) := by decide +kernel
theorem dX0_connect_104 : decode cX0_connect 104 = .ok (.getfield 32, 3) := by decide +kernel
theorem dX0_connect_107 : decode cX0_connect 107 = .ok (.invokevirtual 115, 3) := by decide +kernel
theorem dX0_connect_110 : decode cX0_connect 110 = .ok (.aload_n 0, 1) := by decide +kernel
theorem dX0_connect_111 : decode cX0_connect 111 = .ok (.getfield 32, 3) := by decide +kernel
theorem dX0_connect_114 : decode cX0_connect 114 = .ok (.iconst 0, 1) := by decide +kernel
theorem dX0_connect_115 : decode cX0_connect 115 = .ok (.aload_n 2, 1) := by decide +kernel
theorem dX0_connect_116 : decode cX0_connect 116 = .ok (.iconst 0, 1) := by decide +kernel
theorem dX0_connect_117 : decode cX0_connect 117 = .ok (.iconst 3, 1) := by decide +kernel
theorem dX0_connect_118 : decode cX0_connect 118 = .ok (.invokestatic 122, 3) := by decide +kernel
theorem dX0_connect_121 : decode cX0_connect 121 = .ok (.aload_n 0, 1) := by decide +kernel
theorem dX0_connect_122 : decode cX0_connect 122 = .ok (.getfield 18, 3) := by decide +kernel
theorem dX0_connect_125 : decode cX0_connect 125 = .ok (.aload_n 1, 1) := by decide +kernel
theorem dX0_connect_126 : decode cX0_connect 126 = .ok (.aload_n 0, 1) := by decide +kernel
theorem dX0_connect_127 : decode cX0_connect 127 = .ok (.getfield 11, 3) := by decide +kernel
theorem dX0_connect_130 : decode cX0_connect 130 = .ok (.iconst 2, 1) := by decide +kernel
theorem dX0_connect_131 : decode cX0_connect 131 = .ok (.iaload, 1) := by decide +kernel
theorem dX0_connect_132 : decode cX0_connect 132 = .ok (.invokevirtual 55, 3) := by decide +kernel
theorem dX0_connect_135 : decode cX0_connect 135 = .ok (.pop, 1) := by decide +kernel
theorem dX0_connect_136 : decode cX0_connect 136 = .ok (.aload_n 0, 1) := by decide +kernel
theorem dX0_connect_137 : decode cX0_connect 137 = .ok (.getfield 18, 3) := by decide +kernel
theorem dX0_connect_140 : decode cX0_connect 140 = .ok (.aload_n 1, 1) := by decide +kernel
theorem dX0_connect_141 : decode cX0_connect 141 = .ok (.aload_n 0, 1) := by decide +kernel
theorem dX0_connect_142 : decode cX0_connect 142 = .ok (.getfield 11, 3) := by decide +kernel
theorem dX0_connect_145 : decode cX0_connect 145 = .ok (.iconst 2, 1) := by decide +kernel
theorem dX0_connect_146 : decode cX0_connect 146 = .ok (.iaload, 1) := by decide +kernel
theorem dX0_connect_147 : decode cX0_connect 147 = .ok (.invokevirtual 74, 3) := by decide +kernel
theorem dX0_connect_150 : decode cX0_connect 150 = .ok (.aload_n 0, 1) := by decide +kernel
theorem dX0_connect_151 : decode cX0_connect 151 = .ok (.getfield 18, 3) := by decide +kernel
theorem dX0_connect_154 : decode cX0_connect 154 = .ok (.getfield 91, 3) := by decide +kernel
theorem dX0_connect_157 : decode cX0_connect 157 = .ok (.aload_n 2, 1) := by decide +kernel
theorem dX0_connect_158 : decode cX0_connect 158 = .ok (.invokevirtual 128, 3) := by decide +kernel
theorem dX0_connect_161 : decode cX0_connect 161 = .ok (.aload_n 0, 1) := by decide +kernel
theorem dX0_connect_162 : decode cX0_connect 162 = .ok (.getfield 18, 3) := by decide +kernel
theorem dX0_connect_165 : decode cX0_connect 165 = .ok (.aload_n 2, 1) := by decide +kernel
theorem dX0_connect_166 : decode cX0_connect 166 = .ok (.invokevirtual 119, 3) := by decide +kernel
theorem dX0_connect_169 : decode cX0_connect 169 = .ok (.ifCond .ne 5, 3) := by decide +kernel
theorem dX0_connect_172 : decode cX0_connect 172 = .ok (.iconst 0, 1) := by decide +kernel
theorem dX0_connect_173 : decode cX0_connect 173 = .ok (.ireturn, 1) := by decide +kernel
theorem dX0_connect_174 : decode cX0_connect 174 = .ok (.aload_n 0, 1) := by decide +kernel
theorem dX0_connect_175 : decode cX0_connect 175 = .ok (.getfield 18, 3) := by decide +kernel
theorem dX0_connect_178 : decode cX0_connect 178 = .ok (.aload_n 1, 1) := by decide +kernel
theorem dX0_connect_179 : decode cX0_connect 179 = .ok (.aload_n 0, 1) := by decide +kernel
theorem dX0_connect_180 : decode cX0_connect 180 = .ok (.getfield 11, 3) := by decide +kernel
theorem dX0_connect_183 : decode cX0_connect 183 = .ok (.iconst 4, 1) := by decide +kernel
theorem dX0_connect_184 : decode cX0_connect 184 = .ok (.iaload, 1) := by decide +kernel
theorem dX0_connect_185 : decode cX0_connect 185 = .ok (.invokevirtual 55, 3) := by decide +kernel
theorem dX0_connect_188 : decode cX0_connect 188 = .ok (.pop, 1) := by decide +kernel
theorem dX0_connect_189 : decode cX0_connect 189 = .ok (.aload_n 0, 1) := by decide +kernel
theorem dX0_connect_190 : decode cX0_connect 190 = .ok (.getfield 18, 3) := by decide +kernel
theorem dX0_connect_193 : decode cX0_connect 193 = .ok (.aload_n 1, 1) := by decide +kernel
theorem dX0_connect_194 : decode cX0_connect 194 = .ok (.aload_n 0, 1) := by decide +kernel
theorem dX0_connect_195 : decode cX0_connect 195 = .ok (.getfield 11, 3) := by decide +kernel
theorem dX0_connect_198 : decode cX0_connect 198 = .ok (.iconst 4, 1) := by decide +kernel
theorem dX0_connect_199 : decode cX0_connect 199 = .ok (.iaload, 1) := by decide +kernel
theorem dX0_connect_200 : decode cX0_connect 200 = .ok (.invokevirtual 74, 3) := by decide +kernel
theorem dX0_connect_203 : decode cX0_connect 203 = .ok (.aload_n 0, 1) := by decide +kernel
theorem dX0_connect_204 : decode cX0_connect 204 = .ok (.getfield 18, 3) := by decide +kernel
theorem dX0_connect_207 : decode cX0_connect 207 = .ok (.getfield 78, 3) := by decide +kernel
theorem dX0_connect_210 : decode cX0_connect 210 = .ok (.aload_n 2, 1) := by decide +kernel
theorem dX0_connect_211 : decode cX0_connect 211 = .ok (.invokevirtual 128, 3) := by decide +kernel
theorem dX0_connect_214 : decode cX0_connect 214 = .ok (.iconst 1, 1) := by decide +kernel
theorem dX0_connect_215 : decode cX0_connect 215 = .ok (.ireturn, 1) := by decide +kernel
theorem dX1_init_0 : decode cX1_init 0 = .ok (.aload_n 0, 1) := by decide +kernel
theorem dX1_init_1 : decode cX1_init 1 = .ok (.invokespecial 3, 3) := by decide +kernel
theorem dX1_init_4 : decode cX1_init 4 = .ok (.aload_n 0, 1) := by decide +kernel
theorem dX1_init_5 : decode cX1_init 5 = .ok (.bipush 20, 2) := by decide +kernel
theorem dX1_init_7 : decode cX1_init 7 = .ok (.anewarray 9, 3) := by decide +kernel
theorem dX1_init_10 : decode cX1_init 10 = .ok (.putfield 11, 3) := by decide +kernel
theorem dX1_init_13 : decode cX1_init 13 = .ok (.aload_n 0, 1) := by decide +kernel
theorem dX1_init_14 : decode cX1_init 14 = .ok (.iconst 0, 1) := by decide +kernel
theorem dX1_init_15 : decode cX1_init 15 = .ok (.putfield 17, 3) := by decide +kernel
theorem dX1_init_18 : decode cX1_init 18 = .ok (.aload_n 0, 1) := by decide +kernel
theorem dX1_init_19 : decode cX1_init 19 = .ok (.iconst 0, 1) := by decide +kernel
theorem dX1_init_20 : decode cX1_init 20 = .ok (.putfield 21, 3) := by decide +kernel
theorem dX1_init_23 : decode cX1_init 23 = .ok (.iconst 0, 1) := by decide +kernel
theorem dX1_init_24 : decode cX1_init 24 = .ok (.istore_n 1, 1) := by decide +kernel
theorem dX1_init_25 : decode cX1_init 25 = .ok (.iload_n 1, 1) := by decide +kernel
theorem dX1_init_26 : decode cX1_init 26 = .ok (.bipush 20, 2) := by decide +kernel
theorem dX1_init_28 : decode cX1_init 28 = .ok (.if_icmp .ge 22, 3) := by decide +kernel
theorem dX1_init_31 : decode cX1_init 31 = .ok (.aload_n 0, 1) := by decide +kernel
theorem dX1_init_32 : decode cX1_init 32 = .ok (.getfield 11, 3) := by decide +kernel
theorem dX1_init_35 : decode cX1_init 35 = .ok (.iload_n 1, 1) := by decide +kernel
theorem dX1_init_36 : decode cX1_init 36 = .ok (.new 9, 3) := by decide +kernel
theorem dX1_init_39 : decode cX1_init 39 = .ok (.dup, 1) := by decide +kernel
theorem dX1_init_40 : decode cX1_init 40 = .ok (.invokespecial 24, 3) := by decide +kernel
theorem dX1_init_43 : decode cX1_init 43 = .ok (.aastore, 1) := by decide +kernel
theorem dX1_init_44 : decode cX1_init 44 = .ok (.iinc 1 1, 3) := by decide +kernel
theorem dX1_init_47 : decode cX1_init 47 = .ok (.goto (-22), 3) := by decide +kernel
theorem dX1_init_50 : decode cX1_init 50 = .ok (.return_, 1) := by decide +kernel
theorem dX1_remember_0 : decode cX1_remember 0 = .ok (.aload_n 0, 1) := by decide +kernel
theorem dX1_remember_1 : decode cX1_remember 1 = .ok (.getfield 11, 3) := by decide +kernel
theorem dX1_remember_4 : decode cX1_remember 4 = .ok (.aload_n 0, 1) := by decide +kernel
theorem dX1_remember_5 : decode cX1_remember 5 = .ok (.getfield 17, 3) := by decide +kernel
theorem dX1_remember_8 : decode cX1_remember 8 = .ok (.aaload, 1) := by decide +kernel
theorem dX1_remember_9 : decode cX1_remember 9 = .ok (.aload_n 1, 1) := by decide +kernel
theorem dX1_remember_10 : decode cX1_remember 10 = .ok (.invokevirtual 25, 3) := by decide +kernel
theorem dX1_remember_13 : decode cX1_remember 13 = .ok (.aload_n 0, 1) := by decide +kernel
theorem dX1_remember_14 : decode cX1_remember 14 = .ok (.aload_n 0, 1) := by decide +kernel
theorem dX1_remember_15 : decode cX1_remember 15 = .ok (.getfield 17, 3) := by decide +kernel
theorem dX1_remember_18 : decode cX1_remember 18 = .ok (.iconst 1, 1) := by decide +kernel
theorem dX1_remember_19 : decode cX1_remember 19 = .ok (.iadd, 1) := by decide +kernel
theorem dX1_remember_20 : decode cX1_remember 20 = .ok (.bipush 20, 2) := by decide +kernel
theorem dX1_remember_22 : decode cX1_remember 22 = .ok (.irem, 1) := by decide +kernel
theorem dX1_remember_23 : decode cX1_remember 23 = .ok (.putfield 17, 3) := by decide +kernel
theorem dX1_remember_26 : decode cX1_remember 26 = .ok (.aload_n 0, 1) := by decide +kernel
theorem dX1_remember_27 : decode cX1_remember 27 = .ok (.aload_n 0, 1) := by decide +kernel
theorem dX1_remember_28 : decode cX1_remember 28 = .ok (.getfield 21, 3) := by decide +kernel
theorem dX1_remember_31 : decode cX1_remember 31 = .ok (.iconst 1, 1) := by decide +kernel
theorem dX1_remember_32 : decode cX1_remember 32 = .ok (.iadd, 1) := by decide +kernel
theorem dX1_remember_33 : decode cX1_remember 33 = .ok (.bipush 20, 2) := by decide +kernel
theorem dX1_remember_35 : decode cX1_remember 35 = .ok (.invokestatic 29, 3) := by decide +kernel
theorem dX1_remember_38 : decode cX1_remember 38 = .ok (.putfield 21, 3) := by decide +kernel
theorem dX1_remember_41 : decode cX1_remember 41 = .ok (.return_, 1) := by decide +kernel
theorem dX1_bringBack_0 : decode cX1_bringBack 0 = .ok (.aload_n 0, 1) := by decide +kernel
theorem dX1_bringBack_1 : decode cX1_bringBack 1 = .ok (.getfield 21, 3) := by decide +kernel
theorem dX1_bringBack_4 : decode cX1_bringBack 4 = .ok (.ifCond .le 42, 3) := by decide +kernel
theorem dX1_bringBack_7 : decode cX1_bringBack 7 = .ok (.aload_n 0, 1) := by decide +kernel
theorem dX1_bringBack_8 : decode cX1_bringBack 8 = .ok (.aload_n 0, 1) := by decide +kernel
theorem dX1_bringBack_9 : decode cX1_bringBack 9 = .ok (.getfield 17, 3) := by decide +kernel
theorem dX1_bringBack_12 : decode cX1_bringBack 12 = .ok (.bipush 20, 2) := by decide +kernel
theorem dX1_bringBack_14 : decode cX1_bringBack 14 = .ok (.iadd, 1) := by decide +kernel
theorem dX1_bringBack_15 : decode cX1_bringBack 15 = .ok (.iconst 1, 1) := by decide +kernel
theorem dX1_bringBack_16 : decode cX1_bringBack 16 = .ok (.isub, 1) := by decide +kernel
theorem dX1_bringBack_17 : decode cX1_bringBack 17 = .ok (.bipush 20, 2) := by decide +kernel
theorem dX1_bringBack_19 : decode cX1_bringBack 19 = .ok (.irem, 1) := by decide +kernel
theorem dX1_bringBack_20 : decode cX1_bringBack 20 = .ok (.putfield 17, 3) := by decide +kernel
theorem dX1_bringBack_23 : decode cX1_bringBack 23 = .ok (.aload_n 0, 1) := by decide +kernel
theorem dX1_bringBack_24 : decode cX1_bringBack 24 = .ok (.dup, 1) := by decide +kernel
theorem dX1_bringBack_25 : decode cX1_bringBack 25 = .ok (.getfield 21, 3) := by decide +kernel
theorem dX1_bringBack_28 : decode cX1_bringBack 28 = .ok (.iconst 1, 1) := by decide +kernel
theorem dX1_bringBack_29 : decode cX1_bringBack 29 = .ok (.isub, 1) := by decide +kernel
theorem dX1_bringBack_30 : decode cX1_bringBack 30 = .ok (.putfield 21, 3) := by decide +kernel
theorem dX1_bringBack_33 : decode cX1_bringBack 33 = .ok (.aload_n 1, 1) := by decide +kernel
theorem dX1_bringBack_34 : decode cX1_bringBack 34 = .ok (.aload_n 0, 1) := by decide +kernel
theorem dX1_bringBack_35 : decode cX1_bringBack 35 = .ok (.getfield 11, 3) := by decide +kernel
theorem dX1_bringBack_38 : decode cX1_bringBack 38 = .ok (.aload_n 0, 1) := by decide +kernel
theorem dX1_bringBack_39 : decode cX1_bringBack 39 = .ok (.getfield 17, 3) := by decide +kernel
theorem dX1_bringBack_42 : decode cX1_bringBack 42 = .ok (.aaload, 1) := by decide +kernel
theorem dX1_bringBack_43 : decode cX1_bringBack 43 = .ok (.invokevirtual 25, 3) := by decide +kernel
theorem dX1_bringBack_46 : decode cX1_bringBack 46 = .ok (.return_, 1) := by decide +kernel
theorem dX1_forget_0 : decode cX1_forget 0 = .ok (.aload_n 0, 1) := by decide +kernel
theorem dX1_forget_1 : decode cX1_forget 1 = .ok (.iconst 0, 1) := by decide +kernel
theorem dX1_forget_2 : decode cX1_forget 2 = .ok (.putfield 21, 3) := by decide +kernel
theorem dX1_forget_5 : decode cX1_forget 5 = .ok (.return_, 1) := by decide +kernel
theorem dX2_init_0 : decode cX2_init 0 = .ok (.aload_n 0, 1) := by decide +kernel
theorem dX2_init_1 : decode cX2_init 1 = .ok (.invokespecial 3, 3) := by decide +kernel
theorem dX2_init_4 : decode cX2_init 4 = .ok (.aload_n 0, 1) := by decide +kernel
theorem dX2_init_5 : decode cX2_init 5 = .ok (.bipush 6, 2) := by decide +kernel
theorem dX2_init_7 : decode cX2_init 7 = .ok (.bipush 6, 2) := by decide +kernel
theorem dX2_init_9 : decode cX2_init 9 = .ok (.multianewarray 9 2, 4) := by decide +kernel
theorem dX2_init_13 : decode cX2_init 13 = .ok (.putfield 11, 3) := by decide +kernel
theorem dX2_init_16 : decode cX2_init 16 = .ok (.aload_n 0, 1) := by decide +kernel
theorem dX2_init_17 : decode cX2_init 17 = .ok (.bipush 6, 2) := by decide +kernel
theorem dX2_init_19 : decode cX2_init 19 = .ok (.newarray .long, 2) := by decide +kernel
theorem dX2_init_21 : decode cX2_init 21 = .ok (.putfield 16, 3) := by decide +kernel
theorem dX2_init_24 : decode cX2_init 24 = .ok (.aload_n 0, 1) := by decide +kernel
theorem dX2_init_25 : decode cX2_init 25 = .ok (.iconst 0, 1) := by decide +kernel
theorem dX2_init_26 : decode cX2_init 26 = .ok (.putfield 20, 3) := by decide +kernel
theorem dX2_init_29 : decode cX2_init 29 = .ok (.return_, 1) := by decide +kernel
theorem dX2_clear_0 : decode cX2_clear 0 = .ok (.aload_n 0, 1) := by decide +kernel
theorem dX2_clear_1 : decode cX2_clear 1 = .ok (.iconst 0, 1) := by decide +kernel
theorem dX2_clear_2 : decode cX2_clear 2 = .ok (.iload_n 1, 1) := by decide +kernel
theorem dX2_clear_3 : decode cX2_clear 3 = .ok (.bipush 6, 2) := by decide +kernel
theorem dX2_clear_5 : decode cX2_clear 5 = .ok (.invokestatic 24, 3) := by decide +kernel
theorem dX2_clear_8 : decode cX2_clear 8 = .ok (.invokestatic 30, 3) := by decide +kernel
theorem dX2_clear_11 : decode cX2_clear 11 = .ok (.putfield 20, 3) := by decide +kernel
theorem dX2_clear_14 : decode cX2_clear 14 = .ok (.iconst 0, 1) := by decide +kernel
theorem dX2_clear_15 : decode cX2_clear 15 = .ok (.istore_n 2, 1) := by decide +kernel
theorem dX2_clear_16 : decode cX2_clear 16 = .ok (.iload_n 2, 1) := by decide +kernel
theorem dX2_clear_17 : decode cX2_clear 17 = .ok (.bipush 6, 2) := by decide +kernel
theorem dX2_clear_19 : decode cX2_clear 19 = .ok (.if_icmp .ge 19, 3) := by decide +kernel
theorem dX2_clear_22 : decode cX2_clear 22 = .ok (.aload_n 0, 1) := by decide +kernel
theorem dX2_clear_23 : decode cX2_clear 23 = .ok (.getfield 11, 3) := by decide +kernel
theorem dX2_clear_26 : decode cX2_clear 26 = .ok (.iload_n 2, 1) := by decide +kernel
theorem dX2_clear_27 : decode cX2_clear 27 = .ok (.aaload, 1) := by decide +kernel
theorem dX2_clear_28 : decode cX2_clear 28 = .ok (.lconst 0, 1) := by decide +kernel
theorem dX2_clear_29 : decode cX2_clear 29 = .ok (.invokestatic 33, 3) := by decide +kernel
theorem dX2_clear_32 : decode cX2_clear 32 = .ok (.iinc 2 1, 3) := by decide +kernel
theorem dX2_clear_35 : decode cX2_clear 35 = .ok (.goto (-19), 3) := by decide +kernel
theorem dX2_clear_38 : decode cX2_clear 38 = .ok (.return_, 1) := by decide +kernel
theorem dX2_insert_0 : decode cX2_insert 0 = .ok (.aload_n 1, 1) := by decide +kernel
theorem dX2_insert_1 : decode cX2_insert 1 = .ok (.iconst 0, 1) := by decide +kernel
theorem dX2_insert_2 : decode cX2_insert 2 = .ok (.aload_n 0, 1) := by decide +kernel
theorem dX2_insert_3 : decode cX2_insert 3 = .ok (.getfield 16, 3) := by decide +kernel
theorem dX2_insert_6 : decode cX2_insert 6 = .ok (.iconst 0, 1) := by decide +kernel
theorem dX2_insert_7 : decode cX2_insert 7 = .ok (.aload_n 0, 1) := by decide +kernel
theorem dX2_insert_8 : decode cX2_insert 8 = .ok (.getfield 20, 3) := by decide +kernel
theorem dX2_insert_11 : decode cX2_insert 11 = .ok (.invokestatic 39, 3) := by decide +kernel
theorem dX2_insert_14 : decode cX2_insert 14 = .ok (.aload_n 0, 1) := by decide +kernel
theorem dX2_insert_15 : decode cX2_insert 15 = .ok (.invokevirtual 45, 3) := by decide +kernel
theorem dX2_insert_18 : decode cX2_insert 18 = .ok (.return_, 1) := by decide +kernel
theorem dX2_insertComing_0 : decode cX2_insertComing 0 = .ok (.iconst 0, 1) := by decide +kernel
theorem dX2_insertComing_1 : decode cX2_insertComing 1 = .ok (.istore_n 1, 1) := by decide +kernel
theorem dX2_insertComing_2 : decode cX2_insertComing 2 = .ok (.iload_n 1, 1) := by decide +kernel
theorem dX2_insertComing_3 : decode cX2_insertComing 3 = .ok (.aload_n 0, 1) := by decide +kernel
theorem dX2_insertComing_4 : decode cX2_insertComing 4 = .ok (.getfield 20, 3) := by decide +kernel
theorem dX2_insertComing_7 : decode cX2_insertComing 7 = .ok (.if_icmp .ge 66, 3) := by decide +kernel
theorem dX2_insertComing_10 : decode cX2_insertComing 10 = .ok (.aload_n 0, 1) := by decide +kernel
theorem dX2_insertComing_11 : decode cX2_insertComing 11 = .ok (.aload_n 0, 1) := by decide +kernel
theorem dX2_insertComing_12 : decode cX2_insertComing 12 = .ok (.getfield 16, 3) := by decide +kernel
theorem dX2_insertComing_15 : decode cX2_insertComing 15 = .ok (.iload_n 1, 1) := by decide +kernel
theorem dX2_insertComing_16 : decode cX2_insertComing 16 = .ok (.invokevirtual 48, 3) := by decide +kernel
theorem dX2_insertComing_19 : decode cX2_insertComing 19 = .ok (.aload_n 0, 1) := by decide +kernel
theorem dX2_insertComing_20 : decode cX2_insertComing 20 = .ok (.getfield 16, 3) := by decide +kernel
theorem dX2_insertComing_23 : decode cX2_insertComing 23 = .ok (.iload_n 1, 1) := by decide +kernel
theorem dX2_insertComing_24 : decode cX2_insertComing 24 = .ok (.laload, 1) := by decide +kernel
theorem dX2_insertComing_25 : decode cX2_insertComing 25 = .ok (.lconst 0, 1) := by decide +kernel
theorem dX2_insertComing_26 : decode cX2_insertComing 26 = .ok (.lcmp, 1) := by decide +kernel
theorem dX2_insertComing_27 : decode cX2_insertComing 27 = .ok (.ifCond .eq 24, 3) := by decide +kernel
theorem dX2_insertComing_30 : decode cX2_insertComing 30 = .ok (.aload_n 0, 1) := by decide +kernel
theorem dX2_insertComing_31 : decode cX2_insertComing 31 = .ok (.getfield 11, 3) := by decide +kernel
theorem dX2_insertComing_34 : decode cX2_insertComing 34 = .ok (.iload_n 1, 1) := by decide +kernel
theorem dX2_insertComing_35 : decode cX2_insertComing 35 = .ok (.aaload, 1) := by decide +kernel
theorem dX2_insertComing_36 : decode cX2_insertComing 36 = .ok (.iload_n 1, 1) := by decide +kernel
theorem dX2_insertComing_37 : decode cX2_insertComing 37 = .ok (.laload, 1) := by decide +kernel
theorem dX2_insertComing_38 : decode cX2_insertComing 38 = .ok (.lconst 0, 1) := by decide +kernel
theorem dX2_insertComing_39 : decode cX2_insertComing 39 = .ok (.lcmp, 1) := by decide +kernel
theorem dX2_insertComing_40 : decode cX2_insertComing 40 = .ok (.ifCond .ne 11, 3) := by decide +kernel
theorem dX2_insertComing_43 : decode cX2_insertComing 43 = .ok (.aload_n 0, 1) := by decide +kernel
theorem dX2_insertComing_44 : decode cX2_insertComing 44 = .ok (.iload_n 1, 1) := by decide +kernel
theorem dX2_insertComing_45 : decode cX2_insertComing 45 = .ok (.invokevirtual 52, 3) := by decide +kernel
theorem dX2_insertComing_48 : decode cX2_insertComing 48 = .ok (.goto 25, 3) := by decide +kernel
theorem dX2_insertComing_51 : decode cX2_insertComing 51 = .ok (.aload_n 0, 1) := by decide +kernel
theorem dX2_insertComing_52 : decode cX2_insertComing 52 = .ok (.getfield 16, 3) := by decide +kernel
theorem dX2_insertComing_55 : decode cX2_insertComing 55 = .ok (.iload_n 1, 1) := by decide +kernel
theorem dX2_insertComing_56 : decode cX2_insertComing 56 = .ok (.laload, 1) := by decide +kernel
theorem dX2_insertComing_57 : decode cX2_insertComing 57 = .ok (.lconst 0, 1) := by decide +kernel
theorem dX2_insertComing_58 : decode cX2_insertComing 58 = .ok (.lcmp, 1) := by decide +kernel
theorem dX2_insertComing_59 : decode cX2_insertComing 59 = .ok (.ifCond .eq 8, 3) := by decide +kernel
theorem dX2_insertComing_62 : decode cX2_insertComing 62 = .ok (.aload_n 0, 1) := by decide +kernel
theorem dX2_insertComing_63 : decode cX2_insertComing 63 = .ok (.iload_n 1, 1) := by decide +kernel
theorem dX2_insertComing_64 : decode cX2_insertComing 64 = .ok (.invokevirtual 56, 3) := by decide +kernel
theorem dX2_insertComing_67 : decode cX2_insertComing 67 = .ok (.iinc 1 1, 3) := by decide +kernel
theorem dX2_insertComing_70 : decode cX2_insertComing 70 = .ok (.goto (-68), 3) := by decide +kernel
theorem dX2_insertComing_73 : decode cX2_insertComing 73 = .ok (.aload_n 0, 1) := by decide +kernel
theorem dX2_insertComing_74 : decode cX2_insertComing 74 = .ok (.getfield 20, 3) := by decide +kernel
theorem dX2_insertComing_77 : decode cX2_insertComing 77 = .ok (.iconst 1, 1) := by decide +kernel
theorem dX2_insertComing_78 : decode cX2_insertComing 78 = .ok (.isub, 1) := by decide +kernel
theorem dX2_insertComing_79 : decode cX2_insertComing 79 = .ok (.istore_n 1, 1) := by decide +kernel
theorem dX2_insertComing_80 : decode cX2_insertComing 80 = .ok (.iload_n 1, 1) := by decide +kernel
theorem dX2_insertComing_81 : decode cX2_insertComing 81 = .ok (.ifCond .lt 22, 3) := by decide +kernel
theorem dX2_insertComing_84 : decode cX2_insertComing 84 = .ok (.aload_n 0, 1) := by decide +kernel
theorem dX2_insertComing_85 : decode cX2_insertComing 85 = .ok (.aload_n 0, 1) := by decide +kernel
theorem dX2_insertComing_86 : decode cX2_insertComing 86 = .ok (.getfield 11, 3) := by decide +kernel
theorem dX2_insertComing_89 : decode cX2_insertComing 89 = .ok (.iload_n 1, 1) := by decide +kernel
theorem dX2_insertComing_90 : decode cX2_insertComing 90 = .ok (.aaload, 1) := by decide +kernel
theorem dX2_insertComing_91 : decode cX2_insertComing 91 = .ok (.iload_n 1, 1) := by decide +kernel
theorem dX2_insertComing_92 : decode cX2_insertComing 92 = .ok (.iconst 1, 1) := by decide +kernel
theorem dX2_insertComing_93 : decode cX2_insertComing 93 = .ok (.iadd, 1) := by decide +kernel
theorem dX2_insertComing_94 : decode cX2_insertComing 94 = .ok (.invokevirtual 48, 3) := by decide +kernel
theorem dX2_insertComing_97 : decode cX2_insertComing 97 = .ok (.iinc 1 (-1), 3) := by decide +kernel
theorem dX2_insertComing_100 : decode cX2_insertComing 100 = .ok (.goto (-20), 3) := by decide +kernel
theorem dX2_insertComing_103 : decode cX2_insertComing 103 = .ok (.return_, 1) := by decide +kernel
theorem dX2_settleAt_0 : decode cX2_settleAt 0 = .ok (.aload_n 0, 1) := by decide +kernel
theorem dX2_settleAt_1 : decode cX2_settleAt 1 = .ok (.getfield 16, 3) := by decide +kernel
theorem dX2_settleAt_4 : decode cX2_settleAt 4 = .ok (.iload_n 1, 1) := by decide +kernel
theorem dX2_settleAt_5 : decode cX2_settleAt 5 = .ok (.laload, 1) := by decide +kernel
theorem dX2_settleAt_6 : decode cX2_settleAt 6 = .ok (.lconst 0, 1) := by decide +kernel
theorem dX2_settleAt_7 : decode cX2_settleAt 7 = .ok (.lcmp, 1) := by decide +kernel
theorem dX2_settleAt_8 : decode cX2_settleAt 8 = .ok (.ifCond .ge 9, 3) := by decide +kernel
theorem dX2_settleAt_11 : decode cX2_settleAt 11 = .ok (.ldc2_w 59, 3) := by decide +kernel
theorem dX2_settleAt_14 : decode cX2_settleAt 14 = .ok (.goto 4, 3) := by decide +kernel
theorem dX2_settleAt_17 : decode cX2_settleAt 17 = .ok (.lconst 1, 1) := by decide +kernel
theorem dX2_settleAt_18 : decode cX2_settleAt 18 = .ok (.lstore_n 2, 1) := by decide +kernel
theorem dX2_settleAt_19 : decode cX2_settleAt 19 = .ok (.iload_n 1, 1) := by decide +kernel
theorem dX2_settleAt_20 : decode cX2_settleAt 20 = .ok (.istore 4, 2) := by decide +kernel
theorem dX2_settleAt_22 : decode cX2_settleAt 22 = .ok (.iload 4, 2) := by decide +kernel
theorem dX2_settleAt_24 : decode cX2_settleAt 24 = .ok (.aload_n 0, 1) := by decide +kernel
theorem dX2_settleAt_25 : decode cX2_settleAt 25 = .ok (.getfield 20, 3) := by decide +kernel
theorem dX2_settleAt_28 : decode cX2_settleAt 28 = .ok (.if_icmp .ge 27, 3) := by decide +kernel
theorem dX2_settleAt_31 : decode cX2_settleAt 31 = .ok (.aload_n 0, 1) := by decide +kernel
theorem dX2_settleAt_32 : decode cX2_settleAt 32 = .ok (.getfield 11, 3) := by decide +kernel
theorem dX2_settleAt_35 : decode cX2_settleAt 35 = .ok (.iload_n 1, 1) := by decide +kernel
theorem dX2_settleAt_36 : decode cX2_settleAt 36 = .ok (.aaload, 1) := by decide +kernel
theorem dX2_settleAt_37 : decode cX2_settleAt 37 = .ok (.iload 4, 2) := by decide +kernel
theorem dX2_settleAt_39 : decode cX2_settleAt 39 = .ok (.lload_n 2, 1) := by decide +kernel
theorem dX2_settleAt_40 : decode cX2_settleAt 40 = .ok (.aload_n 0, 1) := by decide +kernel
theorem dX2_settleAt_41 : decode cX2_settleAt 41 = .ok (.getfield 16, 3) := by decide +kernel
theorem dX2_settleAt_44 : decode cX2_settleAt 44 = .ok (.iload 4, 2) := by decide +kernel
theorem dX2_settleAt_46 : decode cX2_settleAt 46 = .ok (.laload, 1) := by decide +kernel
theorem dX2_settleAt_47 : decode cX2_settleAt 47 = .ok (.lmul, 1) := by decide +kernel
theorem dX2_settleAt_48 : decode cX2_settleAt 48 = .ok (.lastore, 1) := by decide +kernel
theorem dX2_settleAt_49 : decode cX2_settleAt 49 = .ok (.iinc 4 1, 3) := by decide +kernel
theorem dX2_settleAt_52 : decode cX2_settleAt 52 = .ok (.goto (-30), 3) := by decide +kernel
theorem dX2_settleAt_55 : decode cX2_settleAt 55 = .ok (.return_, 1) := by decide +kernel
theorem dX2_meetAt_0 : decode cX2_meetAt 0 = .ok (.iconst 0, 1) := by decide +kernel
theorem dX2_meetAt_1 : decode cX2_meetAt 1 = .ok (.istore_n 2, 1) := by decide +kernel
theorem dX2_meetAt_2 : decode cX2_meetAt 2 = .ok (.iload_n 2, 1) := by decide +kernel
theorem dX2_meetAt_3 : decode cX2_meetAt 3 = .ok (.sipush 200, 3) := by decide +kernel
theorem dX2_meetAt_6 : decode cX2_meetAt 6 = .ok (.if_icmp .ge 100, 3) := by decide +kernel
theorem dX2_meetAt_9 : decode cX2_meetAt 9 = .ok (.aload_n 0, 1) := by decide +kernel
theorem dX2_meetAt_10 : decode cX2_meetAt 10 = .ok (.getfield 16, 3) := by decide +kernel
theorem dX2_meetAt_13 : decode cX2_meetAt 13 = .ok (.iload_n 1, 1) := by decide +kernel
theorem dX2_meetAt_14 : decode cX2_meetAt 14 = .ok (.laload, 1) := by decide +kernel
theorem dX2_meetAt_15 : decode cX2_meetAt 15 = .ok (.lconst 0, 1) := by decide +kernel
theorem dX2_meetAt_16 : decode cX2_meetAt 16 = .ok (.lcmp, 1) := by decide +kernel
theorem dX2_meetAt_17 : decode cX2_meetAt 17 = .ok (.ifCond .eq 89, 3) := by decide +kernel
theorem dX2_meetAt_20 : decode cX2_meetAt 20 = .ok (.aload_n 0, 1) := by decide +kernel
theorem dX2_meetAt_21 : decode cX2_meetAt 21 = .ok (.getfield 11, 3) := by decide +kernel
theorem dX2_meetAt_24 : decode cX2_meetAt 24 = .ok (.iload_n 1, 1) := by decide +kernel
theorem dX2_meetAt_25 : decode cX2_meetAt 25 = .ok (.aaload, 1) := by decide +kernel
theorem dX2_meetAt_26 : decode cX2_meetAt 26 = .ok (.iload_n 1, 1) := by decide +kernel
theorem dX2_meetAt_27 : decode cX2_meetAt 27 = .ok (.laload, 1) := by decide +kernel
theorem dX2_meetAt_28 : decode cX2_meetAt 28 = .ok (.aload_n 0, 1) := by decide +kernel
theorem dX2_meetAt_29 : decode cX2_meetAt 29 = .ok (.getfield 16, 3) := by decide +kernel
theorem dX2_meetAt_32 : decode cX2_meetAt 32 = .ok (.iload_n 1, 1) := by decide +kernel
theorem dX2_meetAt_33 : decode cX2_meetAt 33 = .ok (.laload, 1) := by decide +kernel
theorem dX2_meetAt_34 : decode cX2_meetAt 34 = .ok (.ldiv, 1) := by decide +kernel
theorem dX2_meetAt_35 : decode cX2_meetAt 35 = .ok (.lstore_n 3, 1) := by decide +kernel
theorem dX2_meetAt_36 : decode cX2_meetAt 36 = .ok (.iload_n 1, 1) := by decide +kernel
theorem dX2_meetAt_37 : decode cX2_meetAt 37 = .ok (.istore 5, 2) := by decide +kernel
theorem dX2_meetAt_39 : decode cX2_meetAt 39 = .ok (.iload 5, 2) := by decide +kernel
theorem dX2_meetAt_41 : decode cX2_meetAt 41 = .ok (.aload_n 0, 1) := by decide +kernel
theorem dX2_meetAt_42 : decode cX2_meetAt 42 = .ok (.getfield 20, 3) := by decide +kernel
theorem dX2_meetAt_45 : decode cX2_meetAt 45 = .ok (.if_icmp .ge 55, 3) := by decide +kernel
theorem dX2_meetAt_48 : decode cX2_meetAt 48 = .ok (.aload_n 0, 1) := by decide +kernel
theorem dX2_meetAt_49 : decode cX2_meetAt 49 = .ok (.getfield 11, 3) := by decide +kernel
theorem dX2_meetAt_52 : decode cX2_meetAt 52 = .ok (.iload_n 1, 1) := by decide +kernel
theorem dX2_meetAt_53 : decode cX2_meetAt 53 = .ok (.aaload, 1) := by decide +kernel
theorem dX2_meetAt_54 : decode cX2_meetAt 54 = .ok (.iload 5, 2) := by decide +kernel
theorem dX2_meetAt_56 : decode cX2_meetAt 56 = .ok (.laload, 1) := by decide +kernel
theorem dX2_meetAt_57 : decode cX2_meetAt 57 = .ok (.lload_n 3, 1) := by decide +kernel
theorem dX2_meetAt_58 : decode cX2_meetAt 58 = .ok (.aload_n 0, 1) := by decide +kernel
theorem dX2_meetAt_59 : decode cX2_meetAt 59 = .ok (.getfield 16, 3) := by decide +kernel
theorem dX2_meetAt_62 : decode cX2_meetAt 62 = .ok (.iload 5, 2) := by decide +kernel
theorem dX2_meetAt_64 : decode cX2_meetAt 64 = .ok (.laload, 1) := by decide +kernel
theorem dX2_meetAt_65 : decode cX2_meetAt 65 = .ok (.lmul, 1) := by decide +kernel
theorem dX2_meetAt_66 : decode cX2_meetAt 66 = .ok (.lsub, 1) := by decide +kernel
theorem dX2_meetAt_67 : decode cX2_meetAt 67 = .ok (.lstore 6, 2) := by decide +kernel
theorem dX2_meetAt_69 : decode cX2_meetAt 69 = .ok (.aload_n 0, 1) := by decide +kernel
theorem dX2_meetAt_70 : decode cX2_meetAt 70 = .ok (.getfield 11, 3) := by decide +kernel
theorem dX2_meetAt_73 : decode cX2_meetAt 73 = .ok (.iload_n 1, 1) := by decide +kernel
theorem dX2_meetAt_74 : decode cX2_meetAt 74 = .ok (.aaload, 1) := by decide +kernel
theorem dX2_meetAt_75 : decode cX2_meetAt 75 = .ok (.iload 5, 2) := by decide +kernel
theorem dX2_meetAt_77 : decode cX2_meetAt 77 = .ok (.aload_n 0, 1) := by decide +kernel
theorem dX2_meetAt_78 : decode cX2_meetAt 78 = .ok (.getfield 16, 3) := by decide +kernel
theorem dX2_meetAt_81 : decode cX2_meetAt 81 = .ok (.iload 5, 2) := by decide +kernel
theorem dX2_meetAt_83 : decode cX2_meetAt 83 = .ok (.laload, 1) := by decide +kernel
theorem dX2_meetAt_84 : decode cX2_meetAt 84 = .ok (.lastore, 1) := by decide +kernel
theorem dX2_meetAt_85 : decode cX2_meetAt 85 = .ok (.aload_n 0, 1) := by decide +kernel
theorem dX2_meetAt_86 : decode cX2_meetAt 86 = .ok (.getfield 16, 3) := by decide +kernel
theorem dX2_meetAt_89 : decode cX2_meetAt 89 = .ok (.iload 5, 2) := by decide +kernel
theorem dX2_meetAt_91 : decode cX2_meetAt 91 = .ok (.lload 6, 2) := by decide +kernel
theorem dX2_meetAt_93 : decode cX2_meetAt 93 = .ok (.lastore, 1) := by decide +kernel
theorem dX2_meetAt_94 : decode cX2_meetAt 94 = .ok (.iinc 5 1, 3) := by decide +kernel
theorem dX2_meetAt_97 : decode cX2_meetAt 97 = .ok (.goto (-58), 3) := by decide +kernel
theorem dX2_meetAt_100 : decode cX2_meetAt 100 = .ok (.iinc 2 1, 3) := by decide +kernel
theorem dX2_meetAt_103 : decode cX2_meetAt 103 = .ok (.goto (-101), 3) := by decide +kernel
theorem dX2_meetAt_106 : decode cX2_meetAt 106 = .ok (.return_, 1) := by decide +kernel
theorem dX2_reduceFrom_0 : decode cX2_reduceFrom 0 = .ok (.iload_n 2, 1) := by decide +kernel
theorem dX2_reduceFrom_1 : decode cX2_reduceFrom 1 = .ok (.istore_n 3, 1) := by decide +kernel
theorem dX2_reduceFrom_2 : decode cX2_reduceFrom 2 = .ok (.iload_n 3, 1) := by decide +kernel
theorem dX2_reduceFrom_3 : decode cX2_reduceFrom 3 = .ok (.aload_n 0, 1) := by decide +kernel
theorem dX2_reduceFrom_4 : decode cX2_reduceFrom 4 = .ok (.getfield 20, 3) := by decide +kernel
theorem dX2_reduceFrom_7 : decode cX2_reduceFrom 7 = .ok (.if_icmp .ge 80, 3) := by decide +kernel
theorem dX2_reduceFrom_10 : decode cX2_reduceFrom 10 = .ok (.aload_n 0, 1) := by decide +kernel
theorem dX2_reduceFrom_11 : decode cX2_reduceFrom 11 = .ok (.getfield 11, 3) := by decide +kernel
theorem dX2_reduceFrom_14 : decode cX2_reduceFrom 14 = .ok (.iload_n 3, 1) := by decide +kernel
theorem dX2_reduceFrom_15 : decode cX2_reduceFrom 15 = .ok (.aaload, 1) := by decide +kernel
theorem dX2_reduceFrom_16 : decode cX2_reduceFrom 16 = .ok (.iload_n 3, 1) := by decide +kernel
theorem dX2_reduceFrom_17 : decode cX2_reduceFrom 17 = .ok (.laload, 1) := by decide +kernel
theorem dX2_reduceFrom_18 : decode cX2_reduceFrom 18 = .ok (.lstore 4, 2) := by decide +kernel
theorem dX2_reduceFrom_20 : decode cX2_reduceFrom 20 = .ok (.lload 4, 2) := by decide +kernel
theorem dX2_reduceFrom_22 : decode cX2_reduceFrom 22 = .ok (.lconst 0, 1) := by decide +kernel
theorem dX2_reduceFrom_23 : decode cX2_reduceFrom 23 = .ok (.lcmp, 1) := by decide +kernel
theorem dX2_reduceFrom_24 : decode cX2_reduceFrom 24 = .ok (.ifCond .eq 57, 3) := by decide +kernel
theorem dX2_reduceFrom_27 : decode cX2_reduceFrom 27 = .ok (.aload_n 1, 1) := by decide +kernel
theorem dX2_reduceFrom_28 : decode cX2_reduceFrom 28 = .ok (.iload_n 3, 1) := by decide +kernel
theorem dX2_reduceFrom_29 : decode cX2_reduceFrom 29 = .ok (.laload, 1) := by decide +kernel
theorem dX2_reduceFrom_30 : decode cX2_reduceFrom 30 = .ok (.lload 4, 2) := by decide +kernel
theorem dX2_reduceFrom_32 : decode cX2_reduceFrom 32 = .ok (.invokestatic 61, 3) := by decide +kernel
theorem dX2_reduceFrom_35 : decode cX2_reduceFrom 35 = .ok (.lstore 6, 2) := by decide +kernel
theorem dX2_reduceFrom_37 : decode cX2_reduceFrom 37 = .ok (.iload_n 3, 1) := by decide +kernel
theorem dX2_reduceFrom_38 : decode cX2_reduceFrom 38 = .ok (.istore 8, 2) := by decide +kernel
theorem dX2_reduceFrom_40 : decode cX2_reduceFrom 40 = .ok (.iload 8, 2) := by decide +kernel
theorem dX2_reduceFrom_42 : decode cX2_reduceFrom 42 = .ok (.aload_n 0, 1) := by decide +kernel
theorem dX2_reduceFrom_43 : decode cX2_reduceFrom 43 = .ok (.getfield 20, 3) := by decide +kernel
theorem dX2_reduceFrom_46 : decode cX2_reduceFrom 46 = .ok (.if_icmp .ge 35, 3) := by decide +kernel
theorem dX2_reduceFrom_49 : decode cX2_reduceFrom 49 = .ok (.lload 6, 2) := by decide +kernel
theorem dX2_reduceFrom_51 : decode cX2_reduceFrom 51 = .ok (.lconst 0, 1) := by decide +kernel
theorem dX2_reduceFrom_52 : decode cX2_reduceFrom 52 = .ok (.lcmp, 1) := by decide +kernel
theorem dX2_reduceFrom_53 : decode cX2_reduceFrom 53 = .ok (.ifCond .eq 28, 3) := by decide +kernel
theorem dX2_reduceFrom_56 : decode cX2_reduceFrom 56 = .ok (.aload_n 1, 1) := by decide +kernel
theorem dX2_reduceFrom_57 : decode cX2_reduceFrom 57 = .ok (.iload 8, 2) := by decide +kernel
theorem dX2_reduceFrom_59 : decode cX2_reduceFrom 59 = .ok (.dup2, 1) := by decide +kernel
theorem dX2_reduceFrom_60 : decode cX2_reduceFrom 60 = .ok (.laload, 1) := by decide +kernel
theorem dX2_reduceFrom_61 : decode cX2_reduceFrom 61 = .ok (.lload 6, 2) := by decide +kernel
theorem dX2_reduceFrom_63 : decode cX2_reduceFrom 63 = .ok (.aload_n 0, 1) := by decide +kernel
theorem dX2_reduceFrom_64 : decode cX2_reduceFrom 64 = .ok (.getfield 11, 3) := by decide +kernel
theorem dX2_reduceFrom_67 : decode cX2_reduceFrom 67 = .ok (.iload_n 3, 1) := by decide +kernel
theorem dX2_reduceFrom_68 : decode cX2_reduceFrom 68 = .ok (.aaload, 1) := by decide +kernel
theorem dX2_reduceFrom_69 : decode cX2_reduceFrom 69 = .ok (.iload 8, 2) := by decide +kernel
theorem dX2_reduceFrom_71 : decode cX2_reduceFrom 71 = .ok (.laload, 1) := by decide +kernel
theorem dX2_reduceFrom_72 : decode cX2_reduceFrom 72 = .ok (.lmul, 1) := by decide +kernel
theorem dX2_reduceFrom_73 : decode cX2_reduceFrom 73 = .ok (.lsub, 1) := by decide +kernel
theorem dX2_reduceFrom_74 : decode cX2_reduceFrom 74 = .ok (.lastore, 1) := by decide +kernel
theorem dX2_reduceFrom_75 : decode cX2_reduceFrom 75 = .ok (.iinc 8 1, 3) := by decide +kernel
theorem dX2_reduceFrom_78 : decode cX2_reduceFrom 78 = .ok (.goto (-38), 3) := by decide +kernel
theorem dX2_reduceFrom_81 : decode cX2_reduceFrom 81 = .ok (.iinc 3 1, 3) := by decide +kernel
theorem dX2_reduceFrom_84 : decode cX2_reduceFrom 84 = .ok (.goto (-82), 3) := by decide +kernel
theorem dX2_reduceFrom_87 : decode cX2_reduceFrom 87 = .ok (.return_, 1) := by decide +kernel
theorem dX2_reduce_0 : decode cX2_reduce 0 = .ok (.aload_n 0, 1) := by decide +kernel
theorem dX2_reduce_1 : decode cX2_reduce 1 = .ok (.aload_n 1, 1) := by decide +kernel
theorem dX2_reduce_2 : decode cX2_reduce 2 = .ok (.iconst 0, 1) := by decide +kernel
theorem dX2_reduce_3 : decode cX2_reduce 3 = .ok (.invokevirtual 48, 3) := by decide +kernel
theorem dX2_reduce_6 : decode cX2_reduce 6 = .ok (.return_, 1) := by decide +kernel
theorem dX2_swallows_0 : decode cX2_swallows 0 = .ok (.aload_n 0, 1) := by decide +kernel
theorem dX2_swallows_1 : decode cX2_swallows 1 = .ok (.aload_n 1, 1) := by decide +kernel
theorem dX2_swallows_2 : decode cX2_swallows 2 = .ok (.iconst 0, 1) := by decide +kernel
theorem dX2_swallows_3 : decode cX2_swallows 3 = .ok (.invokevirtual 48, 3) := by decide +kernel
theorem dX2_swallows_6 : decode cX2_swallows 6 = .ok (.aload_n 1, 1) := by decide +kernel
theorem dX2_swallows_7 : decode cX2_swallows 7 = .ok (.aload_n 0, 1) := by decide +kernel
theorem dX2_swallows_8 : decode cX2_swallows 8 = .ok (.getfield 20, 3) := by decide +kernel
theorem dX2_swallows_11 : decode cX2_swallows 11 = .ok (.invokestatic 65, 3) := by decide +kernel
theorem dX2_swallows_14 : decode cX2_swallows 14 = .ok (.ireturn, 1) := by decide +kernel
theorem dX2_startsWithZeros_0 : decode cX2_startsWithZeros 0 = .ok (.iconst 0, 1) := by decide +kernel
theorem dX2_startsWithZeros_1 : decode cX2_startsWithZeros 1 = .ok (.istore_n 2, 1) := by decide +kernel
theorem dX2_startsWithZeros_2 : decode cX2_startsWithZeros 2 = .ok (.iload_n 2, 1) := by decide +kernel
theorem dX2_startsWithZeros_3 : decode cX2_startsWithZeros 3 = .ok (.iload_n 1, 1) := by decide +kernel
theorem dX2_startsWithZeros_4 : decode cX2_startsWithZeros 4 = .ok (.if_icmp .ge 19, 3) := by decide +kernel
theorem dX2_startsWithZeros_7 : decode cX2_startsWithZeros 7 = .ok (.aload_n 0, 1) := by decide +kernel
theorem dX2_startsWithZeros_8 : decode cX2_startsWithZeros 8 = .ok (.iload_n 2, 1) := by decide +kernel
theorem dX2_startsWithZeros_9 : decode cX2_startsWithZeros 9 = .ok (.laload, 1) := by decide +kernel
theorem dX2_startsWithZeros_10 : decode cX2_startsWithZeros 10 = .ok (.lconst 0, 1) := by decide +kernel
theorem dX2_startsWithZeros_11 : decode cX2_startsWithZeros 11 = .ok (.lcmp, 1) := by decide +kernel
theorem dX2_startsWithZeros_12 : decode cX2_startsWithZeros 12 = .ok (.ifCond .eq 5, 3) := by decide +kernel
theorem dX2_startsWithZeros_15 : decode cX2_startsWithZeros 15 = .ok (.iconst 0, 1) := by decide +kernel
theorem dX2_startsWithZeros_16 : decode cX2_startsWithZeros 16 = .ok (.ireturn, 1) := by decide +kernel
theorem dX2_startsWithZeros_17 : decode cX2_startsWithZeros 17 = .ok (.iinc 2 1, 3) := by decide +kernel
theorem dX2_startsWithZeros_20 : decode cX2_startsWithZeros 20 = .ok (.goto (-18), 3) := by decide +kernel
theorem dX2_startsWithZeros_23 : decode cX2_startsWithZeros 23 = .ok (.iconst 1, 1) := by decide +kernel
theorem dX2_startsWithZeros_24 : decode cX2_startsWithZeros 24 = .ok (.ireturn, 1) := by decide +kernel
theorem dX2_lead_0 : decode cX2_lead 0 = .ok (.iload_n 1, 1) := by decide +kernel
theorem dX2_lead_1 : decode cX2_lead 1 = .ok (.ifCond .lt 22, 3) := by decide +kernel
theorem dX2_lead_4 : decode cX2_lead 4 = .ok (.iload_n 1, 1) := by decide +kernel
theorem dX2_lead_5 : decode cX2_lead 5 = .ok (.aload_n 0, 1) := by decide +kernel
theorem dX2_lead_6 : decode cX2_lead 6 = .ok (.getfield 20, 3) := by decide +kernel
theorem dX2_lead_9 : decode cX2_lead 9 = .ok (.if_icmp .ge 14, 3) := by decide +kernel
theorem dX2_lead_12 : decode cX2_lead 12 = .ok (.aload_n 0, 1) := by decide +kernel
theorem dX2_lead_13 : decode cX2_lead 13 = .ok (.getfield 11, 3) := by decide +kernel
theorem dX2_lead_16 : decode cX2_lead 16 = .ok (.iload_n 1, 1) := by decide +kernel
theorem dX2_lead_17 : decode cX2_lead 17 = .ok (.aaload, 1) := by decide +kernel
theorem dX2_lead_18 : decode cX2_lead 18 = .ok (.iload_n 1, 1) := by decide +kernel
theorem dX2_lead_19 : decode cX2_lead 19 = .ok (.laload, 1) := by decide +kernel
theorem dX2_lead_20 : decode cX2_lead 20 = .ok (.goto 4, 3) := by decide +kernel
theorem dX2_lead_23 : decode cX2_lead 23 = .ok (.lconst 0, 1) := by decide +kernel
theorem dX2_lead_24 : decode cX2_lead 24 = .ok (.lreturn, 1) := by decide +kernel
theorem dX2_rank_0 : decode cX2_rank 0 = .ok (.iconst 0, 1) := by decide +kernel
theorem dX2_rank_1 : decode cX2_rank 1 = .ok (.istore_n 1, 1) := by decide +kernel
theorem dX2_rank_2 : decode cX2_rank 2 = .ok (.iconst 0, 1) := by decide +kernel
theorem dX2_rank_3 : decode cX2_rank 3 = .ok (.istore_n 2, 1) := by decide +kernel
theorem dX2_rank_4 : decode cX2_rank 4 = .ok (.iload_n 2, 1) := by decide +kernel
theorem dX2_rank_5 : decode cX2_rank 5 = .ok (.aload_n 0, 1) := by decide +kernel
theorem dX2_rank_6 : decode cX2_rank 6 = .ok (.getfield 20, 3) := by decide +kernel
theorem dX2_rank_9 : decode cX2_rank 9 = .ok (.if_icmp .ge 30, 3) := by decide +kernel
theorem dX2_rank_12 : decode cX2_rank 12 = .ok (.iload_n 1, 1) := by decide +kernel
theorem dX2_rank_13 : decode cX2_rank 13 = .ok (.aload_n 0, 1) := by decide +kernel
theorem dX2_rank_14 : decode cX2_rank 14 = .ok (.getfield 11, 3) := by decide +kernel
theorem dX2_rank_17 : decode cX2_rank 17 = .ok (.iload_n 2, 1) := by decide +kernel
theorem dX2_rank_18 : decode cX2_rank 18 = .ok (.aaload, 1) := by decide +kernel
theorem dX2_rank_19 : decode cX2_rank 19 = .ok (.iload_n 2, 1) := by decide +kernel
theorem dX2_rank_20 : decode cX2_rank 20 = .ok (.laload, 1) := by decide +kernel
theorem dX2_rank_21 : decode cX2_rank 21 = .ok (.lconst 0, 1) := by decide +kernel
theorem dX2_rank_22 : decode cX2_rank 22 = .ok (.lcmp, 1) := by decide +kernel
theorem dX2_rank_23 : decode cX2_rank 23 = .ok (.ifCond .eq 7, 3) := by decide +kernel
theorem dX2_rank_26 : decode cX2_rank 26 = .ok (.iconst 1, 1) := by decide +kernel
theorem dX2_rank_27 : decode cX2_rank 27 = .ok (.goto 4, 3) := by decide +kernel
theorem dX2_rank_30 : decode cX2_rank 30 = .ok (.iconst 0, 1) := by decide +kernel
theorem dX2_rank_31 : decode cX2_rank 31 = .ok (.iadd, 1) := by decide +kernel
theorem dX2_rank_32 : decode cX2_rank 32 = .ok (.istore_n 1, 1) := by decide +kernel
theorem dX2_rank_33 : decode cX2_rank 33 = .ok (.iinc 2 1, 3) := by decide +kernel
theorem dX2_rank_36 : decode cX2_rank 36 = .ok (.goto (-32), 3) := by decide +kernel
theorem dX2_rank_39 : decode cX2_rank 39 = .ok (.iload_n 1, 1) := by decide +kernel
theorem dX2_rank_40 : decode cX2_rank 40 = .ok (.ireturn, 1) := by decide +kernel
theorem dX2_index_0 : decode cX2_index 0 = .ok (.lconst 1, 1) := by decide +kernel
theorem dX2_index_1 : decode cX2_index 1 = .ok (.lstore_n 1, 1) := by decide +kernel
theorem dX2_index_2 : decode cX2_index 2 = .ok (.iconst 0, 1) := by decide +kernel
theorem dX2_index_3 : decode cX2_index 3 = .ok (.istore_n 3, 1) := by decide +kernel
theorem dX2_index_4 : decode cX2_index 4 = .ok (.iload_n 3, 1) := by decide +kernel
theorem dX2_index_5 : decode cX2_index 5 = .ok (.aload_n 0, 1) := by decide +kernel
theorem dX2_index_6 : decode cX2_index 6 = .ok (.getfield 20, 3) := by decide +kernel
theorem dX2_index_9 : decode cX2_index 9 = .ok (.if_icmp .ge 20, 3) := by decide +kernel
theorem dX2_index_12 : decode cX2_index 12 = .ok (.lload_n 1, 1) := by decide +kernel
theorem dX2_index_13 : decode cX2_index 13 = .ok (.aload_n 0, 1) := by decide +kernel
theorem dX2_index_14 : decode cX2_index 14 = .ok (.getfield 11, 3) := by decide +kernel
theorem dX2_index_17 : decode cX2_index 17 = .ok (.iload_n 3, 1) := by decide +kernel
theorem dX2_index_18 : decode cX2_index 18 = .ok (.aaload, 1) := by decide +kernel
theorem dX2_index_19 : decode cX2_index 19 = .ok (.iload_n 3, 1) := by decide +kernel
theorem dX2_index_20 : decode cX2_index 20 = .ok (.laload, 1) := by decide +kernel
theorem dX2_index_21 : decode cX2_index 21 = .ok (.lmul, 1) := by decide +kernel
theorem dX2_index_22 : decode cX2_index 22 = .ok (.lstore_n 1, 1) := by decide +kernel
theorem dX2_index_23 : decode cX2_index 23 = .ok (.iinc 3 1, 3) := by decide +kernel
theorem dX2_index_26 : decode cX2_index 26 = .ok (.goto (-22), 3) := by decide +kernel
theorem dX2_index_29 : decode cX2_index 29 = .ok (.lload_n 1, 1) := by decide +kernel
theorem dX2_index_30 : decode cX2_index 30 = .ok (.lreturn, 1) := by decide +kernel
theorem dX2_indexWithin_0 : decode cX2_indexWithin 0 = .ok (.aload_n 1, 1) := by decide +kernel
theorem dX2_indexWithin_1 : decode cX2_indexWithin 1 = .ok (.getfield 20, 3) := by decide +kernel
theorem dX2_indexWithin_4 : decode cX2_indexWithin 4 = .ok (.aload_n 0, 1) := by decide +kernel
theorem dX2_indexWithin_5 : decode cX2_indexWithin 5 = .ok (.getfield 20, 3) := by decide +kernel
theorem dX2_indexWithin_8 : decode cX2_indexWithin 8 = .ok (.if_icmp .ne 14, 3) := by decide +kernel
theorem dX2_indexWithin_11 : decode cX2_indexWithin 11 = .ok (.aload_n 1, 1) := by decide +kernel
theorem dX2_indexWithin_12 : decode cX2_indexWithin 12 = .ok (.invokevirtual 69, 3) := by decide +kernel
theorem dX2_indexWithin_15 : decode cX2_indexWithin 15 = .ok (.aload_n 0, 1) := by decide +kernel
theorem dX2_indexWithin_16 : decode cX2_indexWithin 16 = .ok (.invokevirtual 69, 3) := by decide +kernel
theorem dX2_indexWithin_19 : decode cX2_indexWithin 19 = .ok (.if_icmp .eq 5, 3) := by decide +kernel
theorem dX2_indexWithin_22 : decode cX2_indexWithin 22 = .ok (.lconst 0, 1) := by decide +kernel
theorem dX2_indexWithin_23 : decode cX2_indexWithin 23 = .ok (.lreturn, 1) := by decide +kernel
theorem dX2_indexWithin_24 : decode cX2_indexWithin 24 = .ok (.lconst 1, 1) := by decide +kernel
theorem dX2_indexWithin_25 : decode cX2_indexWithin 25 = .ok (.lstore_n 2, 1) := by decide +kernel
theorem dX2_indexWithin_26 : decode cX2_indexWithin 26 = .ok (.lconst 1, 1) := by decide +kernel
theorem dX2_indexWithin_27 : decode cX2_indexWithin 27 = .ok (.lstore 4, 2) := by decide +kernel
theorem dX2_indexWithin_29 : decode cX2_indexWithin 29 = .ok (.iconst 0, 1) := by decide +kernel
theorem dX2_indexWithin_30 : decode cX2_indexWithin 30 = .ok (.istore 6, 2) := by decide +kernel
theorem dX2_indexWithin_32 : decode cX2_indexWithin 32 = .ok (.iload 6, 2) := by decide +kernel
theorem dX2_indexWithin_34 : decode cX2_indexWithin 34 = .ok (.aload_n 0, 1) := by decide +kernel
theorem dX2_indexWithin_35 : decode cX2_indexWithin 35 = .ok (.getfield 20, 3) := by decide +kernel
theorem dX2_indexWithin_38 : decode cX2_indexWithin 38 = .ok (.if_icmp .ge 45, 3) := by decide +kernel
theorem dX2_indexWithin_41 : decode cX2_indexWithin 41 = .ok (.lload_n 2, 1) := by decide +kernel
theorem dX2_indexWithin_42 : decode cX2_indexWithin 42 = .ok (.lconst 1, 1) := by decide +kernel
theorem dX2_indexWithin_43 : decode cX2_indexWithin 43 = .ok (.aload_n 0, 1) := by decide +kernel
theorem dX2_indexWithin_44 : decode cX2_indexWithin 44 = .ok (.getfield 11, 3) := by decide +kernel
theorem dX2_indexWithin_47 : decode cX2_indexWithin 47 = .ok (.iload 6, 2) := by decide +kernel
theorem dX2_indexWithin_49 : decode cX2_indexWithin 49 = .ok (.aaload, 1) := by decide +kernel
theorem dX2_indexWithin_50 : decode cX2_indexWithin 50 = .ok (.iload 6, 2) := by decide +kernel
theorem dX2_indexWithin_52 : decode cX2_indexWithin 52 = .ok (.laload, 1) := by decide +kernel
theorem dX2_indexWithin_53 : decode cX2_indexWithin 53 = .ok (.invokestatic 73, 3) := by decide +kernel
theorem dX2_indexWithin_56 : decode cX2_indexWithin 56 = .ok (.lmul, 1) := by decide +kernel
theorem dX2_indexWithin_57 : decode cX2_indexWithin 57 = .ok (.lstore_n 2, 1) := by decide +kernel
theorem dX2_indexWithin_58 : decode cX2_indexWithin 58 = .ok (.lload 4, 2) := by decide +kernel
theorem dX2_indexWithin_60 : decode cX2_indexWithin 60 = .ok (.lconst 1, 1) := by decide +kernel
theorem dX2_indexWithin_61 : decode cX2_indexWithin 61 = .ok (.aload_n 1, 1) := by decide +kernel
theorem dX2_indexWithin_62 : decode cX2_indexWithin 62 = .ok (.getfield 11, 3) := by decide +kernel
theorem dX2_indexWithin_65 : decode cX2_indexWithin 65 = .ok (.iload 6, 2) := by decide +kernel
theorem dX2_indexWithin_67 : decode cX2_indexWithin 67 = .ok (.aaload, 1) := by decide +kernel
theorem dX2_indexWithin_68 : decode cX2_indexWithin 68 = .ok (.iload 6, 2) := by decide +kernel
theorem dX2_indexWithin_70 : decode cX2_indexWithin 70 = .ok (.laload, 1) := by decide +kernel
theorem dX2_indexWithin_71 : decode cX2_indexWithin 71 = .ok (.invokestatic 73, 3) := by decide +kernel
theorem dX2_indexWithin_74 : decode cX2_indexWithin 74 = .ok (.lmul, 1) := by decide +kernel
theorem dX2_indexWithin_75 : decode cX2_indexWithin 75 = .ok (.lstore 4, 2) := by decide +kernel
theorem dX2_indexWithin_77 : decode cX2_indexWithin 77 = .ok (.iinc 6 1, 3) := by decide +kernel
theorem dX2_indexWithin_80 : decode cX2_indexWithin 80 = .ok (.goto (-48), 3) := by decide +kernel
theorem dX2_indexWithin_83 : decode cX2_indexWithin 83 = .ok (.lload_n 2, 1) := by decide +kernel
theorem dX2_indexWithin_84 : decode cX2_indexWithin 84 = .ok (.lload 4, 2) := by decide +kernel
theorem dX2_indexWithin_86 : decode cX2_indexWithin 86 = .ok (.ldiv, 1) := by decide +kernel
theorem dX2_indexWithin_87 : decode cX2_indexWithin 87 = .ok (.lreturn, 1) := by decide +kernel
theorem dX2_orderOf_0 : decode cX2_orderOf 0 = .ok (.lconst 1, 1) := by decide +kernel
theorem dX2_orderOf_1 : decode cX2_orderOf 1 = .ok (.lstore_n 2, 1) := by decide +kernel
theorem dX2_orderOf_2 : decode cX2_orderOf 2 = .ok (.iconst 0, 1) := by decide +kernel
theorem dX2_orderOf_3 : decode cX2_orderOf 3 = .ok (.istore 4, 2) := by decide +kernel
theorem dX2_orderOf_5 : decode cX2_orderOf 5 = .ok (.iload 4, 2) := by decide +kernel
theorem dX2_orderOf_7 : decode cX2_orderOf 7 = .ok (.aload_n 0, 1) := by decide +kernel
theorem dX2_orderOf_8 : decode cX2_orderOf 8 = .ok (.getfield 20, 3) := by decide +kernel
theorem dX2_orderOf_11 : decode cX2_orderOf 11 = .ok (.if_icmp .ge 109, 3) := by decide +kernel
theorem dX2_orderOf_14 : decode cX2_orderOf 14 = .ok (.aload_n 0, 1) := by decide +kernel
theorem dX2_orderOf_15 : decode cX2_orderOf 15 = .ok (.aload_n 1, 1) := by decide +kernel
theorem dX2_orderOf_16 : decode cX2_orderOf 16 = .ok (.iload 4, 2) := by decide +kernel
theorem dX2_orderOf_18 : decode cX2_orderOf 18 = .ok (.invokevirtual 48, 3) := by decide +kernel
theorem dX2_orderOf_21 : decode cX2_orderOf 21 = .ok (.aload_n 0, 1) := by decide +kernel
theorem dX2_orderOf_22 : decode cX2_orderOf 22 = .ok (.getfield 11, 3) := by decide +kernel
theorem dX2_orderOf_25 : decode cX2_orderOf 25 = .ok (.iload 4, 2) := by decide +kernel
theorem dX2_orderOf_27 : decode cX2_orderOf 27 = .ok (.aaload, 1) := by decide +kernel
theorem dX2_orderOf_28 : decode cX2_orderOf 28 = .ok (.iload 4, 2) := by decide +kernel
theorem dX2_orderOf_30 : decode cX2_orderOf 30 = .ok (.laload, 1) := by decide +kernel
theorem dX2_orderOf_31 : decode cX2_orderOf 31 = .ok (.lstore 5, 2) := by decide +kernel
theorem dX2_orderOf_33 : decode cX2_orderOf 33 = .ok (.aload_n 1, 1) := by decide +kernel
theorem dX2_orderOf_34 : decode cX2_orderOf 34 = .ok (.iload 4, 2) := by decide +kernel
theorem dX2_orderOf_36 : decode cX2_orderOf 36 = .ok (.laload, 1) := by decide +kernel
theorem dX2_orderOf_37 : decode cX2_orderOf 37 = .ok (.lconst 0, 1) := by decide +kernel
theorem dX2_orderOf_38 : decode cX2_orderOf 38 = .ok (.lcmp, 1) := by decide +kernel
theorem dX2_orderOf_39 : decode cX2_orderOf 39 = .ok (.ifCond .eq 12, 3) := by decide +kernel
theorem dX2_orderOf_42 : decode cX2_orderOf 42 = .ok (.lload 5, 2) := by decide +kernel
theorem dX2_orderOf_44 : decode cX2_orderOf 44 = .ok (.lconst 0, 1) := by decide +kernel
theorem dX2_orderOf_45 : decode cX2_orderOf 45 = .ok (.lcmp, 1) := by decide +kernel
theorem dX2_orderOf_46 : decode cX2_orderOf 46 = .ok (.ifCond .ne 5, 3) := by decide +kernel
theorem dX2_orderOf_49 : decode cX2_orderOf 49 = .ok (.lconst 0, 1) := by decide +kernel
theorem dX2_orderOf_50 : decode cX2_orderOf 50 = .ok (.lreturn, 1) := by decide +kernel
theorem dX2_orderOf_51 : decode cX2_orderOf 51 = .ok (.aload_n 1, 1) := by decide +kernel
theorem dX2_orderOf_52 : decode cX2_orderOf 52 = .ok (.iload 4, 2) := by decide +kernel
theorem dX2_orderOf_54 : decode cX2_orderOf 54 = .ok (.laload, 1) := by decide +kernel
theorem dX2_orderOf_55 : decode cX2_orderOf 55 = .ok (.lconst 0, 1) := by decide +kernel
theorem dX2_orderOf_56 : decode cX2_orderOf 56 = .ok (.lcmp, 1) := by decide +kernel
theorem dX2_orderOf_57 : decode cX2_orderOf 57 = .ok (.ifCond .eq 57, 3) := by decide +kernel
theorem dX2_orderOf_60 : decode cX2_orderOf 60 = .ok (.lload 5, 2) := by decide +kernel
theorem dX2_orderOf_62 : decode cX2_orderOf 62 = .ok (.aload_n 1, 1) := by decide +kernel
theorem dX2_orderOf_63 : decode cX2_orderOf 63 = .ok (.iload 4, 2) := by decide +kernel
theorem dX2_orderOf_65 : decode cX2_orderOf 65 = .ok (.laload, 1) := by decide +kernel
theorem dX2_orderOf_66 : decode cX2_orderOf 66 = .ok (.lload 5, 2) := by decide +kernel
theorem dX2_orderOf_68 : decode cX2_orderOf 68 = .ok (.invokestatic 75, 3) := by decide +kernel
theorem dX2_orderOf_71 : decode cX2_orderOf 71 = .ok (.ldiv, 1) := by decide +kernel
theorem dX2_orderOf_72 : decode cX2_orderOf 72 = .ok (.lstore 7, 2) := by decide +kernel
theorem dX2_orderOf_74 : decode cX2_orderOf 74 = .ok (.lload_n 2, 1) := by decide +kernel
theorem dX2_orderOf_75 : decode cX2_orderOf 75 = .ok (.lload 7, 2) := by decide +kernel
theorem dX2_orderOf_77 : decode cX2_orderOf 77 = .ok (.lmul, 1) := by decide +kernel
theorem dX2_orderOf_78 : decode cX2_orderOf 78 = .ok (.lstore_n 2, 1) := by decide +kernel
theorem dX2_orderOf_79 : decode cX2_orderOf 79 = .ok (.iload 4, 2) := by decide +kernel
theorem dX2_orderOf_81 : decode cX2_orderOf 81 = .ok (.istore 9, 2) := by decide +kernel
theorem dX2_orderOf_83 : decode cX2_orderOf 83 = .ok (.iload 9, 2) := by decide +kernel
theorem dX2_orderOf_85 : decode cX2_orderOf 85 = .ok (.aload_n 0, 1) := by decide +kernel
theorem dX2_orderOf_86 : decode cX2_orderOf 86 = .ok (.getfield 20, 3) := by decide +kernel
theorem dX2_orderOf_89 : decode cX2_orderOf 89 = .ok (.if_icmp .ge 18, 3) := by decide +kernel
theorem dX2_orderOf_92 : decode cX2_orderOf 92 = .ok (.aload_n 1, 1) := by decide +kernel
theorem dX2_orderOf_93 : decode cX2_orderOf 93 = .ok (.iload 9, 2) := by decide +kernel
theorem dX2_orderOf_95 : decode cX2_orderOf 95 = .ok (.dup2, 1) := by decide +kernel
theorem dX2_orderOf_96 : decode cX2_orderOf 96 = .ok (.laload, 1) := by decide +kernel
theorem dX2_orderOf_97 : decode cX2_orderOf 97 = .ok (.lload 7, 2) := by decide +kernel
theorem dX2_orderOf_99 : decode cX2_orderOf 99 = .ok (.lmul, 1) := by decide +kernel
theorem dX2_orderOf_100 : decode cX2_orderOf 100 = .ok (.lastore, 1) := by decide +kernel
theorem dX2_orderOf_101 : decode cX2_orderOf 101 = .ok (.iinc 9 1, 3) := by decide +kernel
theorem dX2_orderOf_104 : decode cX2_orderOf 104 = .ok (.goto (-21), 3) := by decide +kernel
theorem dX2_orderOf_107 : decode cX2_orderOf 107 = .ok (.aload_n 0, 1) := by decide +kernel
theorem dX2_orderOf_108 : decode cX2_orderOf 108 = .ok (.aload_n 1, 1) := by decide +kernel
theorem dX2_orderOf_109 : decode cX2_orderOf 109 = .ok (.iload 4, 2) := by decide +kernel
theorem dX2_orderOf_111 : decode cX2_orderOf 111 = .ok (.invokevirtual 48, 3) := by decide +kernel
theorem dX2_orderOf_114 : decode cX2_orderOf 114 = .ok (.iinc 4 1, 3) := by decide +kernel
theorem dX2_orderOf_117 : decode cX2_orderOf 117 = .ok (.goto (-112), 3) := by decide +kernel
theorem dX2_orderOf_120 : decode cX2_orderOf 120 = .ok (.lload_n 2, 1) := by decide +kernel
theorem dX2_orderOf_121 : decode cX2_orderOf 121 = .ok (.lreturn, 1) := by decide +kernel
theorem dX2_isAs_0 : decode cX2_isAs 0 = .ok (.aload_n 1, 1) := by decide +kernel
theorem dX2_isAs_1 : decode cX2_isAs 1 = .ok (.getfield 20, 3) := by decide +kernel
theorem dX2_isAs_4 : decode cX2_isAs 4 = .ok (.aload_n 0, 1) := by decide +kernel
theorem dX2_isAs_5 : decode cX2_isAs 5 = .ok (.getfield 20, 3) := by decide +kernel
theorem dX2_isAs_8 : decode cX2_isAs 8 = .ok (.if_icmp .eq 5, 3) := by decide +kernel
theorem dX2_isAs_11 : decode cX2_isAs 11 = .ok (.iconst 0, 1) := by decide +kernel
theorem dX2_isAs_12 : decode cX2_isAs 12 = .ok (.ireturn, 1) := by decide +kernel
theorem dX2_isAs_13 : decode cX2_isAs 13 = .ok (.iconst 0, 1) := by decide +kernel
theorem dX2_isAs_14 : decode cX2_isAs 14 = .ok (.istore_n 2, 1) := by decide +kernel
theorem dX2_isAs_15 : decode cX2_isAs 15 = .ok (.iload_n 2, 1) := by decide +kernel
theorem dX2_isAs_16 : decode cX2_isAs 16 = .ok (.aload_n 0, 1) := by decide +kernel
theorem dX2_isAs_17 : decode cX2_isAs 17 = .ok (.getfield 20, 3) := by decide +kernel
theorem dX2_isAs_20 : decode cX2_isAs 20 = .ok (.if_icmp .ge 47, 3) := by decide +kernel
theorem dX2_isAs_23 : decode cX2_isAs 23 = .ok (.iload_n 2, 1) := by decide +kernel
theorem dX2_isAs_24 : decode cX2_isAs 24 = .ok (.istore_n 3, 1) := by decide +kernel
theorem dX2_isAs_25 : decode cX2_isAs 25 = .ok (.iload_n 3, 1) := by decide +kernel
theorem dX2_isAs_26 : decode cX2_isAs 26 = .ok (.aload_n 0, 1) := by decide +kernel
theorem dX2_isAs_27 : decode cX2_isAs 27 = .ok (.getfield 20, 3) := by decide +kernel
theorem dX2_isAs_30 : decode cX2_isAs 30 = .ok (.if_icmp .ge 31, 3) := by decide +kernel
theorem dX2_isAs_33 : decode cX2_isAs 33 = .ok (.aload_n 0, 1) := by decide +kernel
theorem dX2_isAs_34 : decode cX2_isAs 34 = .ok (.getfield 11, 3) := by decide +kernel
theorem dX2_isAs_37 : decode cX2_isAs 37 = .ok (.iload_n 2, 1) := by decide +kernel
theorem dX2_isAs_38 : decode cX2_isAs 38 = .ok (.aaload, 1) := by decide +kernel
theorem dX2_isAs_39 : decode cX2_isAs 39 = .ok (.iload_n 3, 1) := by decide +kernel
theorem dX2_isAs_40 : decode cX2_isAs 40 = .ok (.laload, 1) := by decide +kernel
theorem dX2_isAs_41 : decode cX2_isAs 41 = .ok (.aload_n 1, 1) := by decide +kernel
theorem dX2_isAs_42 : decode cX2_isAs 42 = .ok (.getfield 11, 3) := by decide +kernel
theorem dX2_isAs_45 : decode cX2_isAs 45 = .ok (.iload_n 2, 1) := by decide +kernel
theorem dX2_isAs_46 : decode cX2_isAs 46 = .ok (.aaload, 1) := by decide +kernel
theorem dX2_isAs_47 : decode cX2_isAs 47 = .ok (.iload_n 3, 1) := by decide +kernel
theorem dX2_isAs_48 : decode cX2_isAs 48 = .ok (.laload, 1) := by decide +kernel
theorem dX2_isAs_49 : decode cX2_isAs 49 = .ok (.lcmp, 1) := by decide +kernel
theorem dX2_isAs_50 : decode cX2_isAs 50 = .ok (.ifCond .eq 5, 3) := by decide +kernel
theorem dX2_isAs_53 : decode cX2_isAs 53 = .ok (.iconst 0, 1) := by decide +kernel
theorem dX2_isAs_54 : decode cX2_isAs 54 = .ok (.ireturn, 1) := by decide +kernel
theorem dX2_isAs_55 : decode cX2_isAs 55 = .ok (.iinc 3 1, 3) := by decide +kernel
theorem dX2_isAs_58 : decode cX2_isAs 58 = .ok (.goto (-33), 3) := by decide +kernel
theorem dX2_isAs_61 : decode cX2_isAs 61 = .ok (.iinc 2 1, 3) := by decide +kernel
theorem dX2_isAs_64 : decode cX2_isAs 64 = .ok (.goto (-49), 3) := by decide +kernel
theorem dX2_isAs_67 : decode cX2_isAs 67 = .ok (.iconst 1, 1) := by decide +kernel
theorem dX2_isAs_68 : decode cX2_isAs 68 = .ok (.ireturn, 1) := by decide +kernel
theorem dX2_becomeFirstPlaces_0 : decode cX2_becomeFirstPlaces 0 = .ok (.aload_n 0, 1) := by decide +kernel
theorem dX2_becomeFirstPlaces_1 : decode cX2_becomeFirstPlaces 1 = .ok (.iload_n 2, 1) := by decide +kernel
theorem dX2_becomeFirstPlaces_2 : decode cX2_becomeFirstPlaces 2 = .ok (.invokevirtual 78, 3) := by decide +kernel
theorem dX2_becomeFirstPlaces_5 : decode cX2_becomeFirstPlaces 5 = .ok (.iconst 0, 1) := by decide +kernel
theorem dX2_becomeFirstPlaces_6 : decode cX2_becomeFirstPlaces 6 = .ok (.istore_n 3, 1) := by decide +kernel
theorem dX2_becomeFirstPlaces_7 : decode cX2_becomeFirstPlaces 7 = .ok (.iload_n 3, 1) := by decide +kernel
theorem dX2_becomeFirstPlaces_8 : decode cX2_becomeFirstPlaces 8 = .ok (.aload_n 0, 1) := by decide +kernel
theorem dX2_becomeFirstPlaces_9 : decode cX2_becomeFirstPlaces 9 = .ok (.getfield 20, 3) := by decide +kernel
theorem dX2_becomeFirstPlaces_12 : decode cX2_becomeFirstPlaces 12 = .ok (.if_icmp .ge 30, 3) := by decide +kernel
theorem dX2_becomeFirstPlaces_15 : decode cX2_becomeFirstPlaces 15 = .ok (.aload_n 1, 1) := by decide +kernel
theorem dX2_becomeFirstPlaces_16 : decode cX2_becomeFirstPlaces 16 = .ok (.getfield 11, 3) := by decide +kernel
theorem dX2_becomeFirstPlaces_19 : decode cX2_becomeFirstPlaces 19 = .ok (.iload_n 3, 1) := by decide +kernel
theorem dX2_becomeFirstPlaces_20 : decode cX2_becomeFirstPlaces 20 = .ok (.aaload, 1) := by decide +kernel
theorem dX2_becomeFirstPlaces_21 : decode cX2_becomeFirstPlaces 21 = .ok (.iconst 0, 1) := by decide +kernel
theorem dX2_becomeFirstPlaces_22 : decode cX2_becomeFirstPlaces 22 = .ok (.aload_n 0, 1) := by decide +kernel
theorem dX2_becomeFirstPlaces_23 : decode cX2_becomeFirstPlaces 23 = .ok (.getfield 11, 3) := by decide +kernel
theorem dX2_becomeFirstPlaces_26 : decode cX2_becomeFirstPlaces 26 = .ok (.iload_n 3, 1) := by decide +kernel
theorem dX2_becomeFirstPlaces_27 : decode cX2_becomeFirstPlaces 27 = .ok (.aaload, 1) := by decide +kernel
theorem dX2_becomeFirstPlaces_28 : decode cX2_becomeFirstPlaces 28 = .ok (.iconst 0, 1) := by decide +kernel
theorem dX2_becomeFirstPlaces_29 : decode cX2_becomeFirstPlaces 29 = .ok (.aload_n 0, 1) := by decide +kernel
theorem dX2_becomeFirstPlaces_30 : decode cX2_becomeFirstPlaces 30 = .ok (.getfield 20, 3) := by decide +kernel
theorem dX2_becomeFirstPlaces_33 : decode cX2_becomeFirstPlaces 33 = .ok (.invokestatic 39, 3) := by decide +kernel
theorem dX2_becomeFirstPlaces_36 : decode cX2_becomeFirstPlaces 36 = .ok (.iinc 3 1, 3) := by decide +kernel
theorem dX2_becomeFirstPlaces_39 : decode cX2_becomeFirstPlaces 39 = .ok (.goto (-32), 3) := by decide +kernel
theorem dX2_becomeFirstPlaces_42 : decode cX2_becomeFirstPlaces 42 = .ok (.return_, 1) := by decide +kernel
theorem dX2_becomeLastPlaces_0 : decode cX2_becomeLastPlaces 0 = .ok (.aload_n 0, 1) := by decide +kernel
theorem dX2_becomeLastPlaces_1 : decode cX2_becomeLastPlaces 1 = .ok (.aload_n 1, 1) := by decide +kernel
theorem dX2_becomeLastPlaces_2 : decode cX2_becomeLastPlaces 2 = .ok (.getfield 20, 3) := by decide +kernel
theorem dX2_becomeLastPlaces_5 : decode cX2_becomeLastPlaces 5 = .ok (.iload_n 2, 1) := by decide +kernel
theorem dX2_becomeLastPlaces_6 : decode cX2_becomeLastPlaces 6 = .ok (.isub, 1) := by decide +kernel
theorem dX2_becomeLastPlaces_7 : decode cX2_becomeLastPlaces 7 = .ok (.invokevirtual 78, 3) := by decide +kernel
theorem dX2_becomeLastPlaces_10 : decode cX2_becomeLastPlaces 10 = .ok (.iconst 0, 1) := by decide +kernel
theorem dX2_becomeLastPlaces_11 : decode cX2_becomeLastPlaces 11 = .ok (.istore_n 3, 1) := by decide +kernel
theorem dX2_becomeLastPlaces_12 : decode cX2_becomeLastPlaces 12 = .ok (.iload_n 3, 1) := by decide +kernel
theorem dX2_becomeLastPlaces_13 : decode cX2_becomeLastPlaces 13 = .ok (.aload_n 0, 1) := by decide +kernel
theorem dX2_becomeLastPlaces_14 : decode cX2_becomeLastPlaces 14 = .ok (.getfield 20, 3) := by decide +kernel
theorem dX2_becomeLastPlaces_17 : decode cX2_becomeLastPlaces 17 = .ok (.if_icmp .ge 36, 3) := by decide +kernel
theorem dX2_becomeLastPlaces_20 : decode cX2_becomeLastPlaces 20 = .ok (.iload_n 2, 1) := by decide +kernel
theorem dX2_becomeLastPlaces_21 : decode cX2_becomeLastPlaces 21 = .ok (.ifCond .lt 32, 3) := by decide +kernel
theorem dX2_becomeLastPlaces_24 : decode cX2_becomeLastPlaces 24 = .ok (.aload_n 1, 1) := by decide +kernel
theorem dX2_becomeLastPlaces_25 : decode cX2_becomeLastPlaces 25 = .ok (.getfield 11, 3) := by decide +kernel
theorem dX2_becomeLastPlaces_28 : decode cX2_becomeLastPlaces 28 = .ok (.iload_n 2, 1) := by decide +kernel
theorem dX2_becomeLastPlaces_29 : decode cX2_becomeLastPlaces 29 = .ok (.iload_n 3, 1) := by decide +kernel
theorem dX2_becomeLastPlaces_30 : decode cX2_becomeLastPlaces 30 = .ok (.iadd, 1) := by decide +kernel
theorem dX2_becomeLastPlaces_31 : decode cX2_becomeLastPlaces 31 = .ok (.aaload, 1) := by decide +kernel
theorem dX2_becomeLastPlaces_32 : decode cX2_becomeLastPlaces 32 = .ok (.iload_n 2, 1) := by decide +kernel
theorem dX2_becomeLastPlaces_33 : decode cX2_becomeLastPlaces 33 = .ok (.aload_n 0, 1) := by decide +kernel
theorem dX2_becomeLastPlaces_34 : decode cX2_becomeLastPlaces 34 = .ok (.getfield 11, 3) := by decide +kernel
theorem dX2_becomeLastPlaces_37 : decode cX2_becomeLastPlaces 37 = .ok (.iload_n 3, 1) := by decide +kernel
theorem dX2_becomeLastPlaces_38 : decode cX2_becomeLastPlaces 38 = .ok (.aaload, 1) := by decide +kernel
theorem dX2_becomeLastPlaces_39 : decode cX2_becomeLastPlaces 39 = .ok (.iconst 0, 1) := by decide +kernel
theorem dX2_becomeLastPlaces_40 : decode cX2_becomeLastPlaces 40 = .ok (.aload_n 0, 1) := by decide +kernel
theorem dX2_becomeLastPlaces_41 : decode cX2_becomeLastPlaces 41 = .ok (.getfield 20, 3) := by decide +kernel
theorem dX2_becomeLastPlaces_44 : decode cX2_becomeLastPlaces 44 = .ok (.invokestatic 39, 3) := by decide +kernel
theorem dX2_becomeLastPlaces_47 : decode cX2_becomeLastPlaces 47 = .ok (.iinc 3 1, 3) := by decide +kernel
theorem dX2_becomeLastPlaces_50 : decode cX2_becomeLastPlaces 50 = .ok (.goto (-38), 3) := by decide +kernel
theorem dX2_becomeLastPlaces_53 : decode cX2_becomeLastPlaces 53 = .ok (.return_, 1) := by decide +kernel
theorem dX2_becomeInside_0 : decode cX2_becomeInside 0 = .ok (.aload_n 0, 1) := by decide +kernel
theorem dX2_becomeInside_1 : decode cX2_becomeInside 1 = .ok (.aload_n 2, 1) := by decide +kernel
theorem dX2_becomeInside_2 : decode cX2_becomeInside 2 = .ok (.invokevirtual 69, 3) := by decide +kernel
theorem dX2_becomeInside_5 : decode cX2_becomeInside 5 = .ok (.invokevirtual 78, 3) := by decide +kernel
theorem dX2_becomeInside_8 : decode cX2_becomeInside 8 = .ok (.iconst 0, 1) := by decide +kernel
theorem dX2_becomeInside_9 : decode cX2_becomeInside 9 = .ok (.istore_n 3, 1) := by decide +kernel
theorem dX2_becomeInside_10 : decode cX2_becomeInside 10 = .ok (.iload_n 3, 1) := by decide +kernel
theorem dX2_becomeInside_11 : decode cX2_becomeInside 11 = .ok (.aload_n 1, 1) := by decide +kernel
theorem dX2_becomeInside_12 : decode cX2_becomeInside 12 = .ok (.getfield 20, 3) := by decide +kernel
theorem dX2_becomeInside_15 : decode cX2_becomeInside 15 = .ok (.if_icmp .ge 40, 3) := by decide +kernel
theorem dX2_becomeInside_18 : decode cX2_becomeInside 18 = .ok (.aload_n 1, 1) := by decide +kernel
theorem dX2_becomeInside_19 : decode cX2_becomeInside 19 = .ok (.getfield 11, 3) := by decide +kernel
theorem dX2_becomeInside_22 : decode cX2_becomeInside 22 = .ok (.iload_n 3, 1) := by decide +kernel
theorem dX2_becomeInside_23 : decode cX2_becomeInside 23 = .ok (.aaload, 1) := by decide +kernel
theorem dX2_becomeInside_24 : decode cX2_becomeInside 24 = .ok (.iload_n 3, 1) := by decide +kernel
theorem dX2_becomeInside_25 : decode cX2_becomeInside 25 = .ok (.laload, 1) := by decide +kernel
theorem dX2_becomeInside_26 : decode cX2_becomeInside 26 = .ok (.lconst 0, 1) := by decide +kernel
theorem dX2_becomeInside_27 : decode cX2_becomeInside 27 = .ok (.lcmp, 1) := by decide +kernel
theorem dX2_becomeInside_28 : decode cX2_becomeInside 28 = .ok (.ifCond .eq 21, 3) := by decide +kernel
theorem dX2_becomeInside_31 : decode cX2_becomeInside 31 = .ok (.aload_n 2, 1) := by decide +kernel
theorem dX2_becomeInside_32 : decode cX2_becomeInside 32 = .ok (.aload_n 1, 1) := by decide +kernel
theorem dX2_becomeInside_33 : decode cX2_becomeInside 33 = .ok (.getfield 11, 3) := by decide +kernel
theorem dX2_becomeInside_36 : decode cX2_becomeInside 36 = .ok (.iload_n 3, 1) := by decide +kernel
theorem dX2_becomeInside_37 : decode cX2_becomeInside 37 = .ok (.aaload, 1) := by decide +kernel
theorem dX2_becomeInside_38 : decode cX2_becomeInside 38 = .ok (.aload_n 0, 1) := by decide +kernel
theorem dX2_becomeInside_39 : decode cX2_becomeInside 39 = .ok (.getfield 16, 3) := by decide +kernel
theorem dX2_becomeInside_42 : decode cX2_becomeInside 42 = .ok (.invokevirtual 81, 3) := by decide +kernel
theorem dX2_becomeInside_45 : decode cX2_becomeInside 45 = .ok (.aload_n 0, 1) := by decide +kernel
theorem dX2_becomeInside_46 : decode cX2_becomeInside 46 = .ok (.invokevirtual 45, 3) := by decide +kernel
theorem dX2_becomeInside_49 : decode cX2_becomeInside 49 = .ok (.iinc 3 1, 3) := by decide +kernel
theorem dX2_becomeInside_52 : decode cX2_becomeInside 52 = .ok (.goto (-42), 3) := by decide +kernel
theorem dX2_becomeInside_55 : decode cX2_becomeInside 55 = .ok (.return_, 1) := by decide +kernel
theorem dX2_measure_0 : decode cX2_measure 0 = .ok (.aload_n 1, 1) := by decide +kernel
theorem dX2_measure_1 : decode cX2_measure 1 = .ok (.iconst 0, 1) := by decide +kernel
theorem dX2_measure_2 : decode cX2_measure 2 = .ok (.aload_n 0, 1) := by decide +kernel
theorem dX2_measure_3 : decode cX2_measure 3 = .ok (.getfield 16, 3) := by decide +kernel
theorem dX2_measure_6 : decode cX2_measure 6 = .ok (.iconst 0, 1) := by decide +kernel
theorem dX2_measure_7 : decode cX2_measure 7 = .ok (.aload_n 0, 1) := by decide +kernel
theorem dX2_measure_8 : decode cX2_measure 8 = .ok (.getfield 20, 3) := by decide +kernel
theorem dX2_measure_11 : decode cX2_measure 11 = .ok (.invokestatic 39, 3) := by decide +kernel
theorem dX2_measure_14 : decode cX2_measure 14 = .ok (.iconst 0, 1) := by decide +kernel
theorem dX2_measure_15 : decode cX2_measure 15 = .ok (.istore_n 3, 1) := by decide +kernel
theorem dX2_measure_16 : decode cX2_measure 16 = .ok (.iconst 0, 1) := by decide +kernel
theorem dX2_measure_17 : decode cX2_measure 17 = .ok (.istore 4, 2) := by decide +kernel
theorem dX2_measure_19 : decode cX2_measure 19 = .ok (.iload 4, 2) := by decide +kernel
theorem dX2_measure_21 : decode cX2_measure 21 = .ok (.aload_n 0, 1) := by decide +kernel
theorem dX2_measure_22 : decode cX2_measure 22 = .ok (.getfield 20, 3) := by decide +kernel
theorem dX2_measure_25 : decode cX2_measure 25 = .ok (.if_icmp .ge 93, 3) := by decide +kernel
theorem dX2_measure_28 : decode cX2_measure 28 = .ok (.aload_n 0, 1) := by decide +kernel
theorem dX2_measure_29 : decode cX2_measure 29 = .ok (.getfield 11, 3) := by decide +kernel
theorem dX2_measure_32 : decode cX2_measure 32 = .ok (.iload 4, 2) := by decide +kernel
theorem dX2_measure_34 : decode cX2_measure 34 = .ok (.aaload, 1) := by decide +kernel
theorem dX2_measure_35 : decode cX2_measure 35 = .ok (.iload 4, 2) := by decide +kernel
theorem dX2_measure_37 : decode cX2_measure 37 = .ok (.laload, 1) := by decide +kernel
theorem dX2_measure_38 : decode cX2_measure 38 = .ok (.lconst 0, 1) := by decide +kernel
theorem dX2_measure_39 : decode cX2_measure 39 = .ok (.lcmp, 1) := by decide +kernel
theorem dX2_measure_40 : decode cX2_measure 40 = .ok (.ifCond .eq 72, 3) := by decide +kernel
theorem dX2_measure_43 : decode cX2_measure 43 = .ok (.aload_n 2, 1) := by decide +kernel
theorem dX2_measure_44 : decode cX2_measure 44 = .ok (.iload_n 3, 1) := by decide +kernel
theorem dX2_measure_45 : decode cX2_measure 45 = .ok (.aload_n 0, 1) := by decide +kernel
theorem dX2_measure_46 : decode cX2_measure 46 = .ok (.getfield 16, 3) := by decide +kernel
theorem dX2_measure_49 : decode cX2_measure 49 = .ok (.iload 4, 2) := by decide +kernel
theorem dX2_measure_51 : decode cX2_measure 51 = .ok (.laload, 1) := by decide +kernel
theorem dX2_measure_52 : decode cX2_measure 52 = .ok (.aload_n 0, 1) := by decide +kernel
theorem dX2_measure_53 : decode cX2_measure 53 = .ok (.getfield 11, 3) := by decide +kernel
theorem dX2_measure_56 : decode cX2_measure 56 = .ok (.iload 4, 2) := by decide +kernel
theorem dX2_measure_58 : decode cX2_measure 58 = .ok (.aaload, 1) := by decide +kernel
theorem dX2_measure_59 : decode cX2_measure 59 = .ok (.iload 4, 2) := by decide +kernel
theorem dX2_measure_61 : decode cX2_measure 61 = .ok (.laload, 1) := by decide +kernel
theorem dX2_measure_62 : decode cX2_measure 62 = .ok (.ldiv, 1) := by decide +kernel
theorem dX2_measure_63 : decode cX2_measure 63 = .ok (.lastore, 1) := by decide +kernel
theorem dX2_measure_64 : decode cX2_measure 64 = .ok (.aload_n 0, 1) := by decide +kernel
theorem dX2_measure_65 : decode cX2_measure 65 = .ok (.getfield 20, 3) := by decide +kernel
theorem dX2_measure_68 : decode cX2_measure 68 = .ok (.iconst 1, 1) := by decide +kernel
theorem dX2_measure_69 : decode cX2_measure 69 = .ok (.isub, 1) := by decide +kernel
theorem dX2_measure_70 : decode cX2_measure 70 = .ok (.istore 5, 2) := by decide +kernel
theorem dX2_measure_72 : decode cX2_measure 72 = .ok (.iload 5, 2) := by decide +kernel
theorem dX2_measure_74 : decode cX2_measure 74 = .ok (.iload 4, 2) := by decide +kernel
theorem dX2_measure_76 : decode cX2_measure 76 = .ok (.if_icmp .lt 33, 3) := by decide +kernel
theorem dX2_measure_79 : decode cX2_measure 79 = .ok (.aload_n 0, 1) := by decide +kernel
theorem dX2_measure_80 : decode cX2_measure 80 = .ok (.getfield 16, 3) := by decide +kernel
theorem dX2_measure_83 : decode cX2_measure 83 = .ok (.iload 5, 2) := by decide +kernel
theorem dX2_measure_85 : decode cX2_measure 85 = .ok (.dup2, 1) := by decide +kernel
theorem dX2_measure_86 : decode cX2_measure 86 = .ok (.laload, 1) := by decide +kernel
theorem dX2_measure_87 : decode cX2_measure 87 = .ok (.aload_n 2, 1) := by decide +kernel
theorem dX2_measure_88 : decode cX2_measure 88 = .ok (.iload_n 3, 1) := by decide +kernel
theorem dX2_measure_89 : decode cX2_measure 89 = .ok (.laload, 1) := by decide +kernel
theorem dX2_measure_90 : decode cX2_measure 90 = .ok (.aload_n 0, 1) := by decide +kernel
theorem dX2_measure_91 : decode cX2_measure 91 = .ok (.getfield 11, 3) := by decide +kernel
theorem dX2_measure_94 : decode cX2_measure 94 = .ok (.iload 4, 2) := by decide +kernel
theorem dX2_measure_96 : decode cX2_measure 96 = .ok (.aaload, 1) := by decide +kernel
theorem dX2_measure_97 : decode cX2_measure 97 = .ok (.iload 5, 2) := by decide +kernel
theorem dX2_measure_99 : decode cX2_measure 99 = .ok (.laload, 1) := by decide +kernel
theorem dX2_measure_100 : decode cX2_measure 100 = .ok (.lmul, 1) := by decide +kernel
theorem dX2_measure_101 : decode cX2_measure 101 = .ok (.lsub, 1) := by decide +kernel
theorem dX2_measure_102 : decode cX2_measure 102 = .ok (.lastore, 1) := by decide +kernel
theorem dX2_measure_103 : decode cX2_measure 103 = .ok (.iinc 5 (-1), 3) := by decide +kernel
theorem dX2_measure_106 : decode cX2_measure 106 = .ok (.goto (-34), 3) := by decide +kernel
theorem dX2_measure_109 : decode cX2_measure 109 = .ok (.iinc 3 1, 3) := by decide +kernel
theorem dX2_measure_112 : decode cX2_measure 112 = .ok (.iinc 4 1, 3) := by decide +kernel
theorem dX2_measure_115 : decode cX2_measure 115 = .ok (.goto (-96), 3) := by decide +kernel
theorem dX2_measure_118 : decode cX2_measure 118 = .ok (.return_, 1) := by decide +kernel
theorem dX2_divisorOfMinors_0 : decode cX2_divisorOfMinors 0 = .ok (.iload_n 1, 1) := by decide +kernel
theorem dX2_divisorOfMinors_1 : decode cX2_divisorOfMinors 1 = .ok (.iconst 3, 1) := by decide +kernel
theorem dX2_divisorOfMinors_2 : decode cX2_divisorOfMinors 2 = .ok (.if_icmp .ne 8, 3) := by decide +kernel
theorem dX2_divisorOfMinors_5 : decode cX2_divisorOfMinors 5 = .ok (.aload_n 0, 1) := by decide +kernel
theorem dX2_divisorOfMinors_6 : decode cX2_divisorOfMinors 6 = .ok (.invokevirtual 85, 3) := by decide +kernel
theorem dX2_divisorOfMinors_9 : decode cX2_divisorOfMinors 9 = .ok (.lreturn, 1) := by decide +kernel
theorem dX2_divisorOfMinors_10 : decode cX2_divisorOfMinors 10 = .ok (.lconst 0, 1) := by decide +kernel
theorem dX2_divisorOfMinors_11 : decode cX2_divisorOfMinors 11 = .ok (.lstore_n 2, 1) := by decide +kernel
theorem dX2_divisorOfMinors_12 : decode cX2_divisorOfMinors 12 = .ok (.iconst 0, 1) := by decide +kernel
theorem dX2_divisorOfMinors_13 : decode cX2_divisorOfMinors 13 = .ok (.istore 4, 2) := by decide +kernel
theorem dX2_divisorOfMinors_15 : decode cX2_divisorOfMinors 15 = .ok (.iload 4, 2) := by decide +kernel
theorem dX2_divisorOfMinors_17 : decode cX2_divisorOfMinors 17 = .ok (.aload_n 0, 1) := by decide +kernel
theorem dX2_divisorOfMinors_18 : decode cX2_divisorOfMinors 18 = .ok (.getfield 20, 3) := by decide +kernel
theorem dX2_divisorOfMinors_21 : decode cX2_divisorOfMinors 21 = .ok (.if_icmp .ge 59, 3) := by decide +kernel
theorem dX2_divisorOfMinors_24 : decode cX2_divisorOfMinors 24 = .ok (.iload 4, 2) := by decide +kernel
theorem dX2_divisorOfMinors_26 : decode cX2_divisorOfMinors 26 = .ok (.istore 5, 2) := by decide +kernel
theorem dX2_divisorOfMinors_28 : decode cX2_divisorOfMinors 28 = .ok (.iload 5, 2) := by decide +kernel
theorem dX2_divisorOfMinors_30 : decode cX2_divisorOfMinors 30 = .ok (.aload_n 0, 1) := by decide +kernel
theorem dX2_divisorOfMinors_31 : decode cX2_divisorOfMinors 31 = .ok (.getfield 20, 3) := by decide +kernel
theorem dX2_divisorOfMinors_34 : decode cX2_divisorOfMinors 34 = .ok (.if_icmp .ge 40, 3) := by decide +kernel
theorem dX2_divisorOfMinors_37 : decode cX2_divisorOfMinors 37 = .ok (.lload_n 2, 1) := by decide +kernel
theorem dX2_divisorOfMinors_38 : decode cX2_divisorOfMinors 38 = .ok (.iload_n 1, 1) := by decide +kernel
theorem dX2_divisorOfMinors_39 : decode cX2_divisorOfMinors 39 = .ok (.iconst 1, 1) := by decide +kernel
theorem dX2_divisorOfMinors_40 : decode cX2_divisorOfMinors 40 = .ok (.if_icmp .ne 16, 3) := by decide +kernel
theorem dX2_divisorOfMinors_43 : decode cX2_divisorOfMinors 43 = .ok (.aload_n 0, 1) := by decide +kernel
theorem dX2_divisorOfMinors_44 : decode cX2_divisorOfMinors 44 = .ok (.getfield 11, 3) := by decide +kernel
theorem dX2_divisorOfMinors_47 : decode cX2_divisorOfMinors 47 = .ok (.iload 4, 2) := by decide +kernel
theorem dX2_divisorOfMinors_49 : decode cX2_divisorOfMinors 49 = .ok (.aaload, 1) := by decide +kernel
theorem dX2_divisorOfMinors_50 : decode cX2_divisorOfMinors 50 = .ok (.iload 5, 2) := by decide +kernel
theorem dX2_divisorOfMinors_52 : decode cX2_divisorOfMinors 52 = .ok (.laload, 1) := by decide +kernel
theorem dX2_divisorOfMinors_53 : decode cX2_divisorOfMinors 53 = .ok (.goto 11, 3) := by decide +kernel
theorem dX2_divisorOfMinors_56 : decode cX2_divisorOfMinors 56 = .ok (.aload_n 0, 1) := by decide +kernel
theorem dX2_divisorOfMinors_57 : decode cX2_divisorOfMinors 57 = .ok (.iload 4, 2) := by decide +kernel
theorem dX2_divisorOfMinors_59 : decode cX2_divisorOfMinors 59 = .ok (.iload 5, 2) := by decide +kernel
theorem dX2_divisorOfMinors_61 : decode cX2_divisorOfMinors 61 = .ok (.invokevirtual 89, 3) := by decide +kernel
theorem dX2_divisorOfMinors_64 : decode cX2_divisorOfMinors 64 = .ok (.invokestatic 75, 3) := by decide +kernel
theorem dX2_divisorOfMinors_67 : decode cX2_divisorOfMinors 67 = .ok (.lstore_n 2, 1) := by decide +kernel
theorem dX2_divisorOfMinors_68 : decode cX2_divisorOfMinors 68 = .ok (.iinc 5 1, 3) := by decide +kernel
theorem dX2_divisorOfMinors_71 : decode cX2_divisorOfMinors 71 = .ok (.goto (-43), 3) := by decide +kernel
theorem dX2_divisorOfMinors_74 : decode cX2_divisorOfMinors 74 = .ok (.iinc 4 1, 3) := by decide +kernel
theorem dX2_divisorOfMinors_77 : decode cX2_divisorOfMinors 77 = .ok (.goto (-62), 3) := by decide +kernel
theorem dX2_divisorOfMinors_80 : decode cX2_divisorOfMinors 80 = .ok (.lload_n 2, 1) := by decide +kernel
theorem dX2_divisorOfMinors_81 : decode cX2_divisorOfMinors 81 = .ok (.lreturn, 1) := by decide +kernel
theorem dX2_divisorOfTwoRows_0 : decode cX2_divisorOfTwoRows 0 = .ok (.lconst 0, 1) := by decide +kernel
theorem dX2_divisorOfTwoRows_1 : decode cX2_divisorOfTwoRows 1 = .ok (.lstore_n 3, 1) := by decide +kernel
theorem dX2_divisorOfTwoRows_2 : decode cX2_divisorOfTwoRows 2 = .ok (.iconst 0, 1) := by decide +kernel
theorem dX2_divisorOfTwoRows_3 : decode cX2_divisorOfTwoRows 3 = .ok (.istore 5, 2) := by decide +kernel
theorem dX2_divisorOfTwoRows_5 : decode cX2_divisorOfTwoRows 5 = .ok (.iload 5, 2) := by decide +kernel
theorem dX2_divisorOfTwoRows_7 : decode cX2_divisorOfTwoRows 7 = .ok (.aload_n 0, 1) := by decide +kernel
theorem dX2_divisorOfTwoRows_8 : decode cX2_divisorOfTwoRows 8 = .ok (.getfield 20, 3) := by decide +kernel
theorem dX2_divisorOfTwoRows_11 : decode cX2_divisorOfTwoRows 11 = .ok (.if_icmp .ge 74, 3) := by decide +kernel
theorem dX2_divisorOfTwoRows_14 : decode cX2_divisorOfTwoRows 14 = .ok (.iload 5, 2) := by decide +kernel
theorem dX2_divisorOfTwoRows_16 : decode cX2_divisorOfTwoRows 16 = .ok (.iconst 1, 1) := by decide +kernel
theorem dX2_divisorOfTwoRows_17 : decode cX2_divisorOfTwoRows 17 = .ok (.iadd, 1) := by decide +kernel
theorem dX2_divisorOfTwoRows_18 : decode cX2_divisorOfTwoRows 18 = .ok (.istore 6, 2) := by decide +kernel
theorem dX2_divisorOfTwoRows_20 : decode cX2_divisorOfTwoRows 20 = .ok (.iload 6, 2) := by decide +kernel
theorem dX2_divisorOfTwoRows_22 : decode cX2_divisorOfTwoRows 22 = .ok (.aload_n 0, 1) := by decide +kernel
theorem dX2_divisorOfTwoRows_23 : decode cX2_divisorOfTwoRows 23 = .ok (.getfield 20, 3) := by decide +kernel
theorem dX2_divisorOfTwoRows_26 : decode cX2_divisorOfTwoRows 26 = .ok (.if_icmp .ge 53, 3) := by decide +kernel
theorem dX2_divisorOfTwoRows_29 : decode cX2_divisorOfTwoRows 29 = .ok (.lload_n 3, 1) := by decide +kernel
theorem dX2_divisorOfTwoRows_30 : decode cX2_divisorOfTwoRows 30 = .ok (.aload_n 0, 1) := by decide +kernel
theorem dX2_divisorOfTwoRows_31 : decode cX2_divisorOfTwoRows 31 = .ok (.getfield 11, 3) := by decide +kernel
theorem dX2_divisorOfTwoRows_34 : decode cX2_divisorOfTwoRows 34 = .ok (.iload_n 1, 1) := by decide +kernel
theorem dX2_divisorOfTwoRows_35 : decode cX2_divisorOfTwoRows 35 = .ok (.aaload, 1) := by decide +kernel
theorem dX2_divisorOfTwoRows_36 : decode cX2_divisorOfTwoRows 36 = .ok (.iload 5, 2) := by decide +kernel
theorem dX2_divisorOfTwoRows_38 : decode cX2_divisorOfTwoRows 38 = .ok (.laload, 1) := by decide +kernel
theorem dX2_divisorOfTwoRows_39 : decode cX2_divisorOfTwoRows 39 = .ok (.aload_n 0, 1) := by decide +kernel
theorem dX2_divisorOfTwoRows_40 : decode cX2_divisorOfTwoRows 40 = .ok (.getfield 11, 3) := by decide +kernel
theorem dX2_divisorOfTwoRows_43 : decode cX2_divisorOfTwoRows 43 = .ok (.iload_n 2, 1) := by decide +kernel
theorem dX2_divisorOfTwoRows_44 : decode cX2_divisorOfTwoRows 44 = .ok (.aaload, 1) := by decide +kernel
theorem dX2_divisorOfTwoRows_45 : decode cX2_divisorOfTwoRows 45 = .ok (.iload 6, 2) := by decide +kernel
theorem dX2_divisorOfTwoRows_47 : decode cX2_divisorOfTwoRows 47 = .ok (.laload, 1) := by decide +kernel
theorem dX2_divisorOfTwoRows_48 : decode cX2_divisorOfTwoRows 48 = .ok (.lmul, 1) := by decide +kernel
theorem dX2_divisorOfTwoRows_49 : decode cX2_divisorOfTwoRows 49 = .ok (.aload_n 0, 1) := by decide +kernel
theorem dX2_divisorOfTwoRows_50 : decode cX2_divisorOfTwoRows 50 = .ok (.getfield 11, 3) := by decide +kernel
theorem dX2_divisorOfTwoRows_53 : decode cX2_divisorOfTwoRows 53 = .ok (.iload_n 1, 1) := by decide +kernel
theorem dX2_divisorOfTwoRows_54 : decode cX2_divisorOfTwoRows 54 = .ok (.aaload, 1) := by decide +kernel
theorem dX2_divisorOfTwoRows_55 : decode cX2_divisorOfTwoRows 55 = .ok (.iload 6, 2) := by decide +kernel
theorem dX2_divisorOfTwoRows_57 : decode cX2_divisorOfTwoRows 57 = .ok (.laload, 1) := by decide +kernel
theorem dX2_divisorOfTwoRows_58 : decode cX2_divisorOfTwoRows 58 = .ok (.aload_n 0, 1) := by decide +kernel
theorem dX2_divisorOfTwoRows_59 : decode cX2_divisorOfTwoRows 59 = .ok (.getfield 11, 3) := by decide +kernel
theorem dX2_divisorOfTwoRows_62 : decode cX2_divisorOfTwoRows 62 = .ok (.iload_n 2, 1) := by decide +kernel
theorem dX2_divisorOfTwoRows_63 : decode cX2_divisorOfTwoRows 63 = .ok (.aaload, 1) := by decide +kernel
theorem dX2_divisorOfTwoRows_64 : decode cX2_divisorOfTwoRows 64 = .ok (.iload 5, 2) := by decide +kernel
theorem dX2_divisorOfTwoRows_66 : decode cX2_divisorOfTwoRows 66 = .ok (.laload, 1) := by decide +kernel
theorem dX2_divisorOfTwoRows_67 : decode cX2_divisorOfTwoRows 67 = .ok (.lmul, 1) := by decide +kernel
theorem dX2_divisorOfTwoRows_68 : decode cX2_divisorOfTwoRows 68 = .ok (.lsub, 1) := by decide +kernel
theorem dX2_divisorOfTwoRows_69 : decode cX2_divisorOfTwoRows 69 = .ok (.invokestatic 75, 3) := by decide +kernel
theorem dX2_divisorOfTwoRows_72 : decode cX2_divisorOfTwoRows 72 = .ok (.lstore_n 3, 1) := by decide +kernel
theorem dX2_divisorOfTwoRows_73 : decode cX2_divisorOfTwoRows 73 = .ok (.iinc 6 1, 3) := by decide +kernel
theorem dX2_divisorOfTwoRows_76 : decode cX2_divisorOfTwoRows 76 = .ok (.goto (-56), 3) := by decide +kernel
theorem dX2_divisorOfTwoRows_79 : decode cX2_divisorOfTwoRows 79 = .ok (.iinc 5 1, 3) := by decide +kernel
theorem dX2_divisorOfTwoRows_82 : decode cX2_divisorOfTwoRows 82 = .ok (.goto (-77), 3) := by decide +kernel
theorem dX2_divisorOfTwoRows_85 : decode cX2_divisorOfTwoRows 85 = .ok (.lload_n 3, 1) := by decide +kernel
theorem dX2_divisorOfTwoRows_86 : decode cX2_divisorOfTwoRows 86 = .ok (.lreturn, 1) := by decide +kernel
theorem dX3_init_0 : decode cX3_init 0 = .ok (.aload_n 0, 1) := by decide +kernel
theorem dX3_init_1 : decode cX3_init 1 = .ok (.invokespecial 3, 3) := by decide +kernel
theorem dX3_init_4 : decode cX3_init 4 = .ok (.aload_n 0, 1) := by decide +kernel
theorem dX3_init_5 : decode cX3_init 5 = .ok (.new 9, 3) := by decide +kernel
theorem dX3_init_8 : decode cX3_init 8 = .ok (.dup, 1) := by decide +kernel
theorem dX3_init_9 : decode cX3_init 9 = .ok (.invokespecial 11, 3) := by decide +kernel
theorem dX3_init_12 : decode cX3_init 12 = .ok (.putfield 12, 3) := by decide +kernel
theorem dX3_init_15 : decode cX3_init 15 = .ok (.aload_n 0, 1) := by decide +kernel
theorem dX3_init_16 : decode cX3_init 16 = .ok (.new 9, 3) := by decide +kernel
theorem dX3_init_19 : decode cX3_init 19 = .ok (.dup, 1) := by decide +kernel
theorem dX3_init_20 : decode cX3_init 20 = .ok (.invokespecial 11, 3) := by decide +kernel
theorem dX3_init_23 : decode cX3_init 23 = .ok (.putfield 18, 3) := by decide +kernel
theorem dX3_init_26 : decode cX3_init 26 = .ok (.aload_n 0, 1) := by decide +kernel
theorem dX3_init_27 : decode cX3_init 27 = .ok (.new 9, 3) := by decide +kernel
theorem dX3_init_30 : decode cX3_init 30 = .ok (.dup, 1) := by decide +kernel
theorem dX3_init_31 : decode cX3_init 31 = .ok (.invokespecial 11, 3) := by decide +kernel
theorem dX3_init_34 : decode cX3_init 34 = .ok (.putfield 21, 3) := by decide +kernel
theorem dX3_init_37 : decode cX3_init 37 = .ok (.aload_n 0, 1) := by decide +kernel
theorem dX3_init_38 : decode cX3_init 38 = .ok (.new 9, 3) := by decide +kernel
theorem dX3_init_41 : decode cX3_init 41 = .ok (.dup, 1) := by decide +kernel
theorem dX3_init_42 : decode cX3_init 42 = .ok (.invokespecial 11, 3) := by decide +kernel
theorem dX3_init_45 : decode cX3_init 45 = .ok (.putfield 24, 3) := by decide +kernel
theorem dX3_init_48 : decode cX3_init 48 = .ok (.aload_n 0, 1) := by decide +kernel
theorem dX3_init_49 : decode cX3_init 49 = .ok (.new 9, 3) := by decide +kernel
theorem dX3_init_52 : decode cX3_init 52 = .ok (.dup, 1) := by decide +kernel
theorem dX3_init_53 : decode cX3_init 53 = .ok (.invokespecial 11, 3) := by decide +kernel
theorem dX3_init_56 : decode cX3_init 56 = .ok (.putfield 27, 3) := by decide +kernel
theorem dX3_init_59 : decode cX3_init 59 = .ok (.aload_n 0, 1) := by decide +kernel
theorem dX3_init_60 : decode cX3_init 60 = .ok (.new 9, 3) := by decide +kernel
theorem dX3_init_63 : decode cX3_init 63 = .ok (.dup, 1) := by decide +kernel
theorem dX3_init_64 : decode cX3_init 64 = .ok (.invokespecial 11, 3) := by decide +kernel
theorem dX3_init_67 : decode cX3_init 67 = .ok (.putfield 30, 3) := by decide +kernel
theorem dX3_init_70 : decode cX3_init 70 = .ok (.aload_n 0, 1) := by decide +kernel
theorem dX3_init_71 : decode cX3_init 71 = .ok (.bipush 6, 2) := by decide +kernel
theorem dX3_init_73 : decode cX3_init 73 = .ok (.newarray .long, 2) := by decide +kernel
theorem dX3_init_75 : decode cX3_init 75 = .ok (.putfield 33, 3) := by decide +kernel
theorem dX3_init_78 : decode cX3_init 78 = .ok (.aload_n 0, 1) := by decide +kernel
theorem dX3_init_79 : decode cX3_init 79 = .ok (.bipush 6, 2) := by decide +kernel
theorem dX3_init_81 : decode cX3_init 81 = .ok (.newarray .long, 2) := by decide +kernel
theorem dX3_init_83 : decode cX3_init 83 = .ok (.putfield 37, 3) := by decide +kernel
theorem dX3_init_86 : decode cX3_init 86 = .ok (.return_, 1) := by decide +kernel
theorem dX3_load_0 : decode cX3_load 0 = .ok (.aload_n 1, 1) := by decide +kernel
theorem dX3_load_1 : decode cX3_load 1 = .ok (.aload_n 1, 1) := by decide +kernel
theorem dX3_load_2 : decode cX3_load 2 = .ok (.getfield 40, 3) := by decide +kernel
theorem dX3_load_5 : decode cX3_load 5 = .ok (.iload_n 2, 1) := by decide +kernel
theorem dX3_load_6 : decode cX3_load 6 = .ok (.iaload, 1) := by decide +kernel
theorem dX3_load_7 : decode cX3_load 7 = .ok (.aload_n 0, 1) := by decide +kernel
theorem dX3_load_8 : decode cX3_load 8 = .ok (.getfield 12, 3) := by decide +kernel
theorem dX3_load_11 : decode cX3_load 11 = .ok (.invokevirtual 46, 3) := by decide +kernel
theorem dX3_load_14 : decode cX3_load 14 = .ok (.aload_n 1, 1) := by decide +kernel
theorem dX3_load_15 : decode cX3_load 15 = .ok (.aload_n 1, 1) := by decide +kernel
theorem dX3_load_16 : decode cX3_load 16 = .ok (.getfield 50, 3) := by decide +kernel
theorem dX3_load_19 : decode cX3_load 19 = .ok (.iload_n 2, 1) := by decide +kernel
theorem dX3_load_20 : decode cX3_load 20 = .ok (.iaload, 1) := by decide +kernel
theorem dX3_load_21 : decode cX3_load 21 = .ok (.aload_n 0, 1) := by decide +kernel
theorem dX3_load_22 : decode cX3_load 22 = .ok (.getfield 18, 3) := by decide +kernel
theorem dX3_load_25 : decode cX3_load 25 = .ok (.invokevirtual 46, 3) := by decide +kernel
theorem dX3_load_28 : decode cX3_load 28 = .ok (.aload_n 1, 1) := by decide +kernel
theorem dX3_load_29 : decode cX3_load 29 = .ok (.iload_n 2, 1) := by decide +kernel
theorem dX3_load_30 : decode cX3_load 30 = .ok (.aload_n 0, 1) := by decide +kernel
theorem dX3_load_31 : decode cX3_load 31 = .ok (.getfield 18, 3) := by decide +kernel
theorem dX3_load_34 : decode cX3_load 34 = .ok (.aload_n 0, 1) := by decide +kernel
theorem dX3_load_35 : decode cX3_load 35 = .ok (.getfield 33, 3) := by decide +kernel
theorem dX3_load_38 : decode cX3_load 38 = .ok (.aload_n 0, 1) := by decide +kernel
theorem dX3_load_39 : decode cX3_load 39 = .ok (.getfield 37, 3) := by decide +kernel
theorem dX3_load_42 : decode cX3_load 42 = .ok (.invokevirtual 53, 3) := by decide +kernel
theorem dX3_load_45 : decode cX3_load 45 = .ok (.ireturn, 1) := by decide +kernel
theorem dX3_workOut_0 : decode cX3_workOut 0 = .ok (.aload_n 0, 1) := by decide +kernel
theorem dX3_workOut_1 : decode cX3_workOut 1 = .ok (.getfield 12, 3) := by decide +kernel
theorem dX3_workOut_4 : decode cX3_workOut 4 = .ok (.getfield 57, 3) := by decide +kernel
theorem dX3_workOut_7 : decode cX3_workOut 7 = .ok (.istore_n 3, 1) := by decide +kernel
theorem dX3_workOut_8 : decode cX3_workOut 8 = .ok (.aload_n 0, 1) := by decide +kernel
theorem dX3_workOut_9 : decode cX3_workOut 9 = .ok (.getfield 18, 3) := by decide +kernel
theorem dX3_workOut_12 : decode cX3_workOut 12 = .ok (.getfield 57, 3) := by decide +kernel
theorem dX3_workOut_15 : decode cX3_workOut 15 = .ok (.istore 4, 2) := by decide +kernel
theorem dX3_workOut_17 : decode cX3_workOut 17 = .ok (.aload_n 0, 1) := by decide +kernel
theorem dX3_workOut_18 : decode cX3_workOut 18 = .ok (.getfield 27, 3) := by decide +kernel
theorem dX3_workOut_21 : decode cX3_workOut 21 = .ok (.iload 4, 2) := by decide +kernel
theorem dX3_workOut_23 : decode cX3_workOut 23 = .ok (.iload_n 3, 1) := by decide +kernel
theorem dX3_workOut_24 : decode cX3_workOut 24 = .ok (.iadd, 1) := by decide +kernel
theorem dX3_workOut_25 : decode cX3_workOut 25 = .ok (.invokevirtual 61, 3) := by decide +kernel
theorem dX3_workOut_28 : decode cX3_workOut 28 = .ok (.aload_n 0, 1) := by decide +kernel
theorem dX3_workOut_29 : decode cX3_workOut 29 = .ok (.getfield 33, 3) := by decide +kernel
theorem dX3_workOut_32 : decode cX3_workOut 32 = .ok (.lconst 0, 1) := by decide +kernel
theorem dX3_workOut_33 : decode cX3_workOut 33 = .ok (.invokestatic 65, 3) := by decide +kernel
theorem dX3_workOut_36 : decode cX3_workOut 36 = .ok (.iconst 0, 1) := by decide +kernel
theorem dX3_workOut_37 : decode cX3_workOut 37 = .ok (.istore 5, 2) := by decide +kernel
theorem dX3_workOut_39 : decode cX3_workOut 39 = .ok (.iload 5, 2) := by decide +kernel
theorem dX3_workOut_41 : decode cX3_workOut 41 = .ok (.iload 4, 2) := by decide +kernel
theorem dX3_workOut_43 : decode cX3_workOut 43 = .ok (.if_icmp .ge 41, 3) := by decide +kernel
theorem dX3_workOut_46 : decode cX3_workOut 46 = .ok (.aload_n 0, 1) := by decide +kernel
theorem dX3_workOut_47 : decode cX3_workOut 47 = .ok (.getfield 18, 3) := by decide +kernel
theorem dX3_workOut_50 : decode cX3_workOut 50 = .ok (.getfield 71, 3) := by decide +kernel
theorem dX3_workOut_53 : decode cX3_workOut 53 = .ok (.iload 5, 2) := by decide +kernel
theorem dX3_workOut_55 : decode cX3_workOut 55 = .ok (.aaload, 1) := by decide +kernel
theorem dX3_workOut_56 : decode cX3_workOut 56 = .ok (.iconst 0, 1) := by decide +kernel
theorem dX3_workOut_57 : decode cX3_workOut 57 = .ok (.aload_n 0, 1) := by decide +kernel
theorem dX3_workOut_58 : decode cX3_workOut 58 = .ok (.getfield 33, 3) := by decide +kernel
theorem dX3_workOut_61 : decode cX3_workOut 61 = .ok (.iconst 0, 1) := by decide +kernel
theorem dX3_workOut_62 : decode cX3_workOut 62 = .ok (.iload 4, 2) := by decide +kernel
theorem dX3_workOut_64 : decode cX3_workOut 64 = .ok (.invokestatic 75, 3) := by decide +kernel
theorem dX3_workOut_67 : decode cX3_workOut 67 = .ok (.aload_n 0, 1) := by decide +kernel
theorem dX3_workOut_68 : decode cX3_workOut 68 = .ok (.getfield 27, 3) := by decide +kernel
theorem dX3_workOut_71 : decode cX3_workOut 71 = .ok (.aload_n 0, 1) := by decide +kernel
theorem dX3_workOut_72 : decode cX3_workOut 72 = .ok (.getfield 33, 3) := by decide +kernel
theorem dX3_workOut_75 : decode cX3_workOut 75 = .ok (.invokevirtual 81, 3) := by decide +kernel
theorem dX3_workOut_78 : decode cX3_workOut 78 = .ok (.iinc 5 1, 3) := by decide +kernel
theorem dX3_workOut_81 : decode cX3_workOut 81 = .ok (.goto (-42), 3) := by decide +kernel
theorem dX3_workOut_84 : decode cX3_workOut 84 = .ok (.iconst 0, 1) := by decide +kernel
theorem dX3_workOut_85 : decode cX3_workOut 85 = .ok (.istore 5, 2) := by decide +kernel
theorem dX3_workOut_87 : decode cX3_workOut 87 = .ok (.iload 5, 2) := by decide +kernel
theorem dX3_workOut_89 : decode cX3_workOut 89 = .ok (.iload_n 3, 1) := by decide +kernel
theorem dX3_workOut_90 : decode cX3_workOut 90 = .ok (.if_icmp .ge 80, 3) := by decide +kernel
theorem dX3_workOut_93 : decode cX3_workOut 93 = .ok (.aload_n 0, 1) := by decide +kernel
theorem dX3_workOut_94 : decode cX3_workOut 94 = .ok (.getfield 33, 3) := by decide +kernel
theorem dX3_workOut_97 : decode cX3_workOut 97 = .ok (.lconst 0, 1) := by decide +kernel
theorem dX3_workOut_98 : decode cX3_workOut 98 = .ok (.invokestatic 65, 3) := by decide +kernel
theorem dX3_workOut_101 : decode cX3_workOut 101 = .ok (.iconst 0, 1) := by decide +kernel
theorem dX3_workOut_102 : decode cX3_workOut 102 = .ok (.istore 6, 2) := by decide +kernel
theorem dX3_workOut_104 : decode cX3_workOut 104 = .ok (.iload 6, 2) := by decide +kernel
theorem dX3_workOut_106 : decode cX3_workOut 106 = .ok (.iload 4, 2) := by decide +kernel
theorem dX3_workOut_108 : decode cX3_workOut 108 = .ok (.if_icmp .ge 34, 3) := by decide +kernel
theorem dX3_workOut_111 : decode cX3_workOut 111 = .ok (.aload_n 0, 1) := by decide +kernel
theorem dX3_workOut_112 : decode cX3_workOut 112 = .ok (.getfield 33, 3) := by decide +kernel
theorem dX3_workOut_115 : decode cX3_workOut 115 = .ok (.iload 6, 2) := by decide +kernel
theorem dX3_workOut_117 : decode cX3_workOut 117 = .ok (.aload_n 1, 1) := by decide +kernel
theorem dX3_workOut_118 : decode cX3_workOut 118 = .ok (.getfield 85, 3) := by decide +kernel
theorem dX3_workOut_121 : decode cX3_workOut 121 = .ok (.bipush 9, 2) := by decide +kernel
theorem dX3_workOut_123 : decode cX3_workOut 123 = .ok (.iload_n 2, 1) := by decide +kernel
theorem dX3_workOut_124 : decode cX3_workOut 124 = .ok (.imul, 1) := by decide +kernel
theorem dX3_workOut_125 : decode cX3_workOut 125 = .ok (.iconst 3, 1) := by decide +kernel
theorem dX3_workOut_126 : decode cX3_workOut 126 = .ok (.iload 5, 2) := by decide +kernel
theorem dX3_workOut_128 : decode cX3_workOut 128 = .ok (.imul, 1) := by decide +kernel
theorem dX3_workOut_129 : decode cX3_workOut 129 = .ok (.iadd, 1) := by decide +kernel
theorem dX3_workOut_130 : decode cX3_workOut 130 = .ok (.iload 6, 2) := by decide +kernel
theorem dX3_workOut_132 : decode cX3_workOut 132 = .ok (.iadd, 1) := by decide +kernel
theorem dX3_workOut_133 : decode cX3_workOut 133 = .ok (.iaload, 1) := by decide +kernel
theorem dX3_workOut_134 : decode cX3_workOut 134 = .ok (.i2l, 1) := by decide +kernel
theorem dX3_workOut_135 : decode cX3_workOut 135 = .ok (.lastore, 1) := by decide +kernel
theorem dX3_workOut_136 : decode cX3_workOut 136 = .ok (.iinc 6 1, 3) := by decide +kernel
theorem dX3_workOut_139 : decode cX3_workOut 139 = .ok (.goto (-35), 3) := by decide +kernel
theorem dX3_workOut_142 : decode cX3_workOut 142 = .ok (.aload_n 0, 1) := by decide +kernel
theorem dX3_workOut_143 : decode cX3_workOut 143 = .ok (.getfield 33, 3) := by decide +kernel
theorem dX3_workOut_146 : decode cX3_workOut 146 = .ok (.iload 4, 2) := by decide +kernel
theorem dX3_workOut_148 : decode cX3_workOut 148 = .ok (.iload 5, 2) := by decide +kernel
theorem dX3_workOut_150 : decode cX3_workOut 150 = .ok (.iadd, 1) := by decide +kernel
theorem dX3_workOut_151 : decode cX3_workOut 151 = .ok (.lconst 1, 1) := by decide +kernel
theorem dX3_workOut_152 : decode cX3_workOut 152 = .ok (.lastore, 1) := by decide +kernel
theorem dX3_workOut_153 : decode cX3_workOut 153 = .ok (.aload_n 0, 1) := by decide +kernel
theorem dX3_workOut_154 : decode cX3_workOut 154 = .ok (.getfield 27, 3) := by decide +kernel
theorem dX3_workOut_157 : decode cX3_workOut 157 = .ok (.aload_n 0, 1) := by decide +kernel
theorem dX3_workOut_158 : decode cX3_workOut 158 = .ok (.getfield 33, 3) := by decide +kernel
theorem dX3_workOut_161 : decode cX3_workOut 161 = .ok (.invokevirtual 81, 3) := by decide +kernel
theorem dX3_workOut_164 : decode cX3_workOut 164 = .ok (.iinc 5 1, 3) := by decide +kernel
theorem dX3_workOut_167 : decode cX3_workOut 167 = .ok (.goto (-80), 3) := by decide +kernel
theorem dX3_workOut_170 : decode cX3_workOut 170 = .ok (.aload_n 0, 1) := by decide +kernel
theorem dX3_workOut_171 : decode cX3_workOut 171 = .ok (.getfield 21, 3) := by decide +kernel
theorem dX3_workOut_174 : decode cX3_workOut 174 = .ok (.aload_n 0, 1) := by decide +kernel
theorem dX3_workOut_175 : decode cX3_workOut 175 = .ok (.getfield 27, 3) := by decide +kernel
theorem dX3_workOut_178 : decode cX3_workOut 178 = .ok (.iload 4, 2) := by decide +kernel
theorem dX3_workOut_180 : decode cX3_workOut 180 = .ok (.invokevirtual 88, 3) := by decide +kernel
theorem dX3_workOut_183 : decode cX3_workOut 183 = .ok (.aload_n 0, 1) := by decide +kernel
theorem dX3_workOut_184 : decode cX3_workOut 184 = .ok (.getfield 24, 3) := by decide +kernel
theorem dX3_workOut_187 : decode cX3_workOut 187 = .ok (.aload_n 0, 1) := by decide +kernel
theorem dX3_workOut_188 : decode cX3_workOut 188 = .ok (.getfield 27, 3) := by decide +kernel
theorem dX3_workOut_191 : decode cX3_workOut 191 = .ok (.iload 4, 2) := by decide +kernel
theorem dX3_workOut_193 : decode cX3_workOut 193 = .ok (.invokevirtual 92, 3) := by decide +kernel
theorem dX3_workOut_196 : decode cX3_workOut 196 = .ok (.return_, 1) := by decide +kernel
theorem dX3_isOneToOne_0 : decode cX3_isOneToOne 0 = .ok (.aload_n 0, 1) := by decide +kernel
theorem dX3_isOneToOne_1 : decode cX3_isOneToOne 1 = .ok (.getfield 24, 3) := by decide +kernel
theorem dX3_isOneToOne_4 : decode cX3_isOneToOne 4 = .ok (.aload_n 0, 1) := by decide +kernel
theorem dX3_isOneToOne_5 : decode cX3_isOneToOne 5 = .ok (.getfield 12, 3) := by decide +kernel
theorem dX3_isOneToOne_8 : decode cX3_isOneToOne 8 = .ok (.invokevirtual 95, 3) := by decide +kernel
theorem dX3_isOneToOne_11 : decode cX3_isOneToOne 11 = .ok (.ireturn, 1) := by decide +kernel
theorem dX3_isOnto_0 : decode cX3_isOnto 0 = .ok (.aload_n 0, 1) := by decide +kernel
theorem dX3_isOnto_1 : decode cX3_isOnto 1 = .ok (.getfield 21, 3) := by decide +kernel
theorem dX3_isOnto_4 : decode cX3_isOnto 4 = .ok (.invokevirtual 99, 3) := by decide +kernel
theorem dX3_isOnto_7 : decode cX3_isOnto 7 = .ok (.lconst 1, 1) := by decide +kernel
theorem dX3_isOnto_8 : decode cX3_isOnto 8 = .ok (.lcmp, 1) := by decide +kernel
theorem dX3_isOnto_9 : decode cX3_isOnto 9 = .ok (.ifCond .ne 7, 3) := by decide +kernel
theorem dX3_isOnto_12 : decode cX3_isOnto 12 = .ok (.iconst 1, 1) := by decide +kernel
theorem dX3_isOnto_13 : decode cX3_isOnto 13 = .ok (.goto 4, 3) := by decide +kernel
theorem dX3_isOnto_16 : decode cX3_isOnto 16 = .ok (.iconst 0, 1) := by decide +kernel
theorem dX3_isOnto_17 : decode cX3_isOnto 17 = .ok (.ireturn, 1) := by decide +kernel
theorem dX3_fillRings_0 : decode cX3_fillRings 0 = .ok (.iload_n 1, 1) := by decide +kernel
theorem dX3_fillRings_1 : decode cX3_fillRings 1 = .ok (.lookupswitch 64 #[(0, 27), (1, 53)], 27) := by decide +kernel
theorem dX3_fillRings_28 : decode cX3_fillRings 28 = .ok (.aload_n 0, 1) := by decide +kernel
theorem dX3_fillRings_29 : decode cX3_fillRings 29 = .ok (.getfield 30, 3) := by decide +kernel
theorem dX3_fillRings_32 : decode cX3_fillRings 32 = .ok (.aload_n 0, 1) := by decide +kernel
theorem dX3_fillRings_33 : decode cX3_fillRings 33 = .ok (.getfield 12, 3) := by decide +kernel
theorem dX3_fillRings_36 : decode cX3_fillRings 36 = .ok (.aload_n 0, 1) := by decide +kernel
theorem dX3_fillRings_37 : decode cX3_fillRings 37 = .ok (.getfield 24, 3) := by decide +kernel
theorem dX3_fillRings_40 : decode cX3_fillRings 40 = .ok (.invokevirtual 103, 3) := by decide +kernel
theorem dX3_fillRings_43 : decode cX3_fillRings 43 = .ok (.aload_n 2, 1) := by decide +kernel
theorem dX3_fillRings_44 : decode cX3_fillRings 44 = .ok (.aload_n 0, 1) := by decide +kernel
theorem dX3_fillRings_45 : decode cX3_fillRings 45 = .ok (.getfield 30, 3) := by decide +kernel
theorem dX3_fillRings_48 : decode cX3_fillRings 48 = .ok (.invokevirtual 107, 3) := by decide +kernel
theorem dX3_fillRings_51 : decode cX3_fillRings 51 = .ok (.goto 22, 3) := by decide +kernel
theorem dX3_fillRings_54 : decode cX3_fillRings 54 = .ok (.aload_n 2, 1) := by decide +kernel
theorem dX3_fillRings_55 : decode cX3_fillRings 55 = .ok (.aload_n 0, 1) := by decide +kernel
theorem dX3_fillRings_56 : decode cX3_fillRings 56 = .ok (.getfield 24, 3) := by decide +kernel
theorem dX3_fillRings_59 : decode cX3_fillRings 59 = .ok (.invokevirtual 107, 3) := by decide +kernel
theorem dX3_fillRings_62 : decode cX3_fillRings 62 = .ok (.goto 11, 3) := by decide +kernel
theorem dX3_fillRings_65 : decode cX3_fillRings 65 = .ok (.aload_n 2, 1) := by decide +kernel
theorem dX3_fillRings_66 : decode cX3_fillRings 66 = .ok (.aload_n 0, 1) := by decide +kernel
theorem dX3_fillRings_67 : decode cX3_fillRings 67 = .ok (.getfield 21, 3) := by decide +kernel
theorem dX3_fillRings_70 : decode cX3_fillRings 70 = .ok (.invokevirtual 107, 3) := by decide +kernel
theorem dX3_fillRings_73 : decode cX3_fillRings 73 = .ok (.return_, 1) := by decide +kernel
theorem dX3_goBack_0 : decode cX3_goBack 0 = .ok (.aload_n 0, 1) := by decide +kernel
theorem dX3_goBack_1 : decode cX3_goBack 1 = .ok (.getfield 12, 3) := by decide +kernel
theorem dX3_goBack_4 : decode cX3_goBack 4 = .ok (.getfield 57, 3) := by decide +kernel
theorem dX3_goBack_7 : decode cX3_goBack 7 = .ok (.istore_n 2, 1) := by decide +kernel
theorem dX3_goBack_8 : decode cX3_goBack 8 = .ok (.aload_n 0, 1) := by decide +kernel
theorem dX3_goBack_9 : decode cX3_goBack 9 = .ok (.getfield 18, 3) := by decide +kernel
theorem dX3_goBack_12 : decode cX3_goBack 12 = .ok (.getfield 57, 3) := by decide +kernel
theorem dX3_goBack_15 : decode cX3_goBack 15 = .ok (.istore_n 3, 1) := by decide +kernel
theorem dX3_goBack_16 : decode cX3_goBack 16 = .ok (.aload_n 0, 1) := by decide +kernel
theorem dX3_goBack_17 : decode cX3_goBack 17 = .ok (.getfield 33, 3) := by decide +kernel
theorem dX3_goBack_20 : decode cX3_goBack 20 = .ok (.lconst 0, 1) := by decide +kernel
theorem dX3_goBack_21 : decode cX3_goBack 21 = .ok (.invokestatic 65, 3) := by decide +kernel
theorem dX3_goBack_24 : decode cX3_goBack 24 = .ok (.aload_n 1, 1) := by decide +kernel
theorem dX3_goBack_25 : decode cX3_goBack 25 = .ok (.iconst 0, 1) := by decide +kernel
theorem dX3_goBack_26 : decode cX3_goBack 26 = .ok (.aload_n 0, 1) := by decide +kernel
theorem dX3_goBack_27 : decode cX3_goBack 27 = .ok (.getfield 33, 3) := by decide +kernel
theorem dX3_goBack_30 : decode cX3_goBack 30 = .ok (.iconst 0, 1) := by decide +kernel
theorem dX3_goBack_31 : decode cX3_goBack 31 = .ok (.iload_n 3, 1) := by decide +kernel
theorem dX3_goBack_32 : decode cX3_goBack 32 = .ok (.invokestatic 75, 3) := by decide +kernel
theorem dX3_goBack_35 : decode cX3_goBack 35 = .ok (.aload_n 0, 1) := by decide +kernel
theorem dX3_goBack_36 : decode cX3_goBack 36 = .ok (.getfield 27, 3) := by decide +kernel
theorem dX3_goBack_39 : decode cX3_goBack 39 = .ok (.aload_n 0, 1) := by decide +kernel
theorem dX3_goBack_40 : decode cX3_goBack 40 = .ok (.getfield 33, 3) := by decide +kernel
theorem dX3_goBack_43 : decode cX3_goBack 43 = .ok (.invokevirtual 113, 3) := by decide +kernel
theorem dX3_goBack_46 : decode cX3_goBack 46 = .ok (.aload_n 0, 1) := by decide +kernel
theorem dX3_goBack_47 : decode cX3_goBack 47 = .ok (.getfield 33, 3) := by decide +kernel
theorem dX3_goBack_50 : decode cX3_goBack 50 = .ok (.iload_n 3, 1) := by decide +kernel
theorem dX3_goBack_51 : decode cX3_goBack 51 = .ok (.invokestatic 116, 3) := by decide +kernel
theorem dX3_goBack_54 : decode cX3_goBack 54 = .ok (.ifCond .ne 5, 3) := by decide +kernel
theorem dX3_goBack_57 : decode cX3_goBack 57 = .ok (.iconst 0, 1) := by decide +kernel
theorem dX3_goBack_58 : decode cX3_goBack 58 = .ok (.ireturn, 1) := by decide +kernel
theorem dX3_goBack_59 : decode cX3_goBack 59 = .ok (.aload_n 1, 1) := by decide +kernel
theorem dX3_goBack_60 : decode cX3_goBack 60 = .ok (.lconst 0, 1) := by decide +kernel
theorem dX3_goBack_61 : decode cX3_goBack 61 = .ok (.invokestatic 65, 3) := by decide +kernel
theorem dX3_goBack_64 : decode cX3_goBack 64 = .ok (.iconst 0, 1) := by decide +kernel
theorem dX3_goBack_65 : decode cX3_goBack 65 = .ok (.istore 4, 2) := by decide +kernel
theorem dX3_goBack_67 : decode cX3_goBack 67 = .ok (.iload 4, 2) := by decide +kernel
theorem dX3_goBack_69 : decode cX3_goBack 69 = .ok (.iload_n 2, 1) := by decide +kernel
theorem dX3_goBack_70 : decode cX3_goBack 70 = .ok (.if_icmp .ge 23, 3) := by decide +kernel
theorem dX3_goBack_73 : decode cX3_goBack 73 = .ok (.aload_n 1, 1) := by decide +kernel
theorem dX3_goBack_74 : decode cX3_goBack 74 = .ok (.iload 4, 2) := by decide +kernel
theorem dX3_goBack_76 : decode cX3_goBack 76 = .ok (.aload_n 0, 1) := by decide +kernel
theorem dX3_goBack_77 : decode cX3_goBack 77 = .ok (.getfield 33, 3) := by decide +kernel
theorem dX3_goBack_80 : decode cX3_goBack 80 = .ok (.iload_n 3, 1) := by decide +kernel
theorem dX3_goBack_81 : decode cX3_goBack 81 = .ok (.iload 4, 2) := by decide +kernel
theorem dX3_goBack_83 : decode cX3_goBack 83 = .ok (.iadd, 1) := by decide +kernel
theorem dX3_goBack_84 : decode cX3_goBack 84 = .ok (.laload, 1) := by decide +kernel
theorem dX3_goBack_85 : decode cX3_goBack 85 = .ok (.lneg, 1) := by decide +kernel
theorem dX3_goBack_86 : decode cX3_goBack 86 = .ok (.lastore, 1) := by decide +kernel
theorem dX3_goBack_87 : decode cX3_goBack 87 = .ok (.iinc 4 1, 3) := by decide +kernel
theorem dX3_goBack_90 : decode cX3_goBack 90 = .ok (.goto (-23), 3) := by decide +kernel
theorem dX3_goBack_93 : decode cX3_goBack 93 = .ok (.aload_n 0, 1) := by decide +kernel
theorem dX3_goBack_94 : decode cX3_goBack 94 = .ok (.getfield 24, 3) := by decide +kernel
theorem dX3_goBack_97 : decode cX3_goBack 97 = .ok (.aload_n 1, 1) := by decide +kernel
theorem dX3_goBack_98 : decode cX3_goBack 98 = .ok (.invokevirtual 113, 3) := by decide +kernel
theorem dX3_goBack_101 : decode cX3_goBack 101 = .ok (.iconst 1, 1) := by decide +kernel
theorem dX3_goBack_102 : decode cX3_goBack 102 = .ok (.ireturn, 1) := by decide +kernel
theorem dX4_init_0 : decode cX4_init 0 = .ok (.aload_n 0, 1) := by decide +kernel
theorem dX4_init_1 : decode cX4_init 1 = .ok (.invokespecial 3, 3) := by decide +kernel
theorem dX4_init_4 : decode cX4_init 4 = .ok (.aload_n 0, 1) := by decide +kernel
theorem dX4_init_5 : decode cX4_init 5 = .ok (.bipush 9, 2) := by decide +kernel
theorem dX4_init_7 : decode cX4_init 7 = .ok (.newarray .long, 2) := by decide +kernel
theorem dX4_init_9 : decode cX4_init 9 = .ok (.putfield 9, 3) := by decide +kernel
theorem dX4_init_12 : decode cX4_init 12 = .ok (.aload_n 0, 1) := by decide +kernel
theorem dX4_init_13 : decode cX4_init 13 = .ok (.iconst 0, 1) := by decide +kernel
theorem dX4_init_14 : decode cX4_init 14 = .ok (.putfield 15, 3) := by decide +kernel
theorem dX4_init_17 : decode cX4_init 17 = .ok (.return_, 1) := by decide +kernel
theorem dX4_ofQuotient_0 : decode cX4_ofQuotient 0 = .ok (.aload_n 0, 1) := by decide +kernel
theorem dX4_ofQuotient_1 : decode cX4_ofQuotient 1 = .ok (.aload_n 1, 1) := by decide +kernel
theorem dX4_ofQuotient_2 : decode cX4_ofQuotient 2 = .ok (.getfield 19, 3) := by decide +kernel
theorem dX4_ofQuotient_5 : decode cX4_ofQuotient 5 = .ok (.iconst 3, 1) := by decide +kernel
theorem dX4_ofQuotient_6 : decode cX4_ofQuotient 6 = .ok (.invokestatic 24, 3) := by decide +kernel
theorem dX4_ofQuotient_9 : decode cX4_ofQuotient 9 = .ok (.putfield 15, 3) := by decide +kernel
theorem dX4_ofQuotient_12 : decode cX4_ofQuotient 12 = .ok (.aload_n 1, 1) := by decide +kernel
theorem dX4_ofQuotient_13 : decode cX4_ofQuotient 13 = .ok (.invokevirtual 30, 3) := by decide +kernel
theorem dX4_ofQuotient_16 : decode cX4_ofQuotient 16 = .ok (.istore_n 2, 1) := by decide +kernel
theorem dX4_ofQuotient_17 : decode cX4_ofQuotient 17 = .ok (.lconst 1, 1) := by decide +kernel
theorem dX4_ofQuotient_18 : decode cX4_ofQuotient 18 = .ok (.lstore_n 3, 1) := by decide +kernel
theorem dX4_ofQuotient_19 : decode cX4_ofQuotient 19 = .ok (.iconst 0, 1) := by decide +kernel
theorem dX4_ofQuotient_20 : decode cX4_ofQuotient 20 = .ok (.istore 5, 2) := by decide +kernel
theorem dX4_ofQuotient_22 : decode cX4_ofQuotient 22 = .ok (.iload 5, 2) := by decide +kernel
theorem dX4_ofQuotient_24 : decode cX4_ofQuotient 24 = .ok (.aload_n 0, 1) := by decide +kernel
theorem dX4_ofQuotient_25 : decode cX4_ofQuotient 25 = .ok (.getfield 15, 3) := by decide +kernel
theorem dX4_ofQuotient_28 : decode cX4_ofQuotient 28 = .ok (.if_icmp .ge 53, 3) := by decide +kernel
theorem dX4_ofQuotient_31 : decode cX4_ofQuotient 31 = .ok (.iload 5, 2) := by decide +kernel
theorem dX4_ofQuotient_33 : decode cX4_ofQuotient 33 = .ok (.iload_n 2, 1) := by decide +kernel
theorem dX4_ofQuotient_34 : decode cX4_ofQuotient 34 = .ok (.if_icmp .ge 14, 3) := by decide +kernel
theorem dX4_ofQuotient_37 : decode cX4_ofQuotient 37 = .ok (.aload_n 1, 1) := by decide +kernel
theorem dX4_ofQuotient_38 : decode cX4_ofQuotient 38 = .ok (.iload 5, 2) := by decide +kernel
theorem dX4_ofQuotient_40 : decode cX4_ofQuotient 40 = .ok (.iconst 1, 1) := by decide +kernel
theorem dX4_ofQuotient_41 : decode cX4_ofQuotient 41 = .ok (.iadd, 1) := by decide +kernel
theorem dX4_ofQuotient_42 : decode cX4_ofQuotient 42 = .ok (.invokevirtual 34, 3) := by decide +kernel
theorem dX4_ofQuotient_45 : decode cX4_ofQuotient 45 = .ok (.goto 4, 3) := by decide +kernel
theorem dX4_ofQuotient_48 : decode cX4_ofQuotient 48 = .ok (.lconst 0, 1) := by decide +kernel
theorem dX4_ofQuotient_49 : decode cX4_ofQuotient 49 = .ok (.lstore 6, 2) := by decide +kernel
theorem dX4_ofQuotient_51 : decode cX4_ofQuotient 51 = .ok (.aload_n 0, 1) := by decide +kernel
theorem dX4_ofQuotient_52 : decode cX4_ofQuotient 52 = .ok (.getfield 9, 3) := by decide +kernel
theorem dX4_ofQuotient_55 : decode cX4_ofQuotient 55 = .ok (.iload 5, 2) := by decide +kernel
theorem dX4_ofQuotient_57 : decode cX4_ofQuotient 57 = .ok (.lload_n 3, 1) := by decide +kernel
theorem dX4_ofQuotient_58 : decode cX4_ofQuotient 58 = .ok (.lconst 0, 1) := by decide +kernel
theorem dX4_ofQuotient_59 : decode cX4_ofQuotient 59 = .ok (.lcmp, 1) := by decide +kernel
theorem dX4_ofQuotient_60 : decode cX4_ofQuotient 60 = .ok (.ifCond .ne 7, 3) := by decide +kernel
theorem dX4_ofQuotient_63 : decode cX4_ofQuotient 63 = .ok (.lconst 0, 1) := by decide +kernel
theorem dX4_ofQuotient_64 : decode cX4_ofQuotient 64 = .ok (.goto 7, 3) := by decide +kernel
theorem dX4_ofQuotient_67 : decode cX4_ofQuotient 67 = .ok (.lload 6, 2) := by decide +kernel
theorem dX4_ofQuotient_69 : decode cX4_ofQuotient 69 = .ok (.lload_n 3, 1) := by decide +kernel
theorem dX4_ofQuotient_70 : decode cX4_ofQuotient 70 = .ok (.ldiv, 1) := by decide +kernel
theorem dX4_ofQuotient_71 : decode cX4_ofQuotient 71 = .ok (.lastore, 1) := by decide +kernel
theorem dX4_ofQuotient_72 : decode cX4_ofQuotient 72 = .ok (.lload 6, 2) := by decide +kernel
theorem dX4_ofQuotient_74 : decode cX4_ofQuotient 74 = .ok (.lstore_n 3, 1) := by decide +kernel
theorem dX4_ofQuotient_75 : decode cX4_ofQuotient 75 = .ok (.iinc 5 1, 3) := by decide +kernel
theorem dX4_ofQuotient_78 : decode cX4_ofQuotient 78 = .ok (.goto (-56), 3) := by decide +kernel
theorem dX4_ofQuotient_81 : decode cX4_ofQuotient 81 = .ok (.return_, 1) := by decide +kernel
theorem dX4_ofTwoGroups_0 : decode cX4_ofTwoGroups 0 = .ok (.aload_n 0, 1) := by decide +kernel
theorem dX4_ofTwoGroups_1 : decode cX4_ofTwoGroups 1 = .ok (.iconst 0, 1) := by decide +kernel
theorem dX4_ofTwoGroups_2 : decode cX4_ofTwoGroups 2 = .ok (.putfield 15, 3) := by decide +kernel
theorem dX4_ofTwoGroups_5 : decode cX4_ofTwoGroups 5 = .ok (.iload_n 1, 1) := by decide +kernel
theorem dX4_ofTwoGroups_6 : decode cX4_ofTwoGroups 6 = .ok (.iconst 4, 1) := by decide +kernel
theorem dX4_ofTwoGroups_7 : decode cX4_ofTwoGroups 7 = .ok (.if_icmp .ne 16, 3) := by decide +kernel
theorem dX4_ofTwoGroups_10 : decode cX4_ofTwoGroups 10 = .ok (.aload_n 0, 1) := by decide +kernel
theorem dX4_ofTwoGroups_11 : decode cX4_ofTwoGroups 11 = .ok (.aload_n 2, 1) := by decide +kernel
theorem dX4_ofTwoGroups_12 : decode cX4_ofTwoGroups 12 = .ok (.invokevirtual 38, 3) := by decide +kernel
theorem dX4_ofTwoGroups_15 : decode cX4_ofTwoGroups 15 = .ok (.aload_n 0, 1) := by decide +kernel
theorem dX4_ofTwoGroups_16 : decode cX4_ofTwoGroups 16 = .ok (.aload_n 3, 1) := by decide +kernel
theorem dX4_ofTwoGroups_17 : decode cX4_ofTwoGroups 17 = .ok (.invokevirtual 38, 3) := by decide +kernel
theorem dX4_ofTwoGroups_20 : decode cX4_ofTwoGroups 20 = .ok (.goto 61, 3) := by decide +kernel
theorem dX4_ofTwoGroups_23 : decode cX4_ofTwoGroups 23 = .ok (.iconst 0, 1) := by decide +kernel
theorem dX4_ofTwoGroups_24 : decode cX4_ofTwoGroups 24 = .ok (.istore 4, 2) := by decide +kernel
theorem dX4_ofTwoGroups_26 : decode cX4_ofTwoGroups 26 = .ok (.iload 4, 2) := by decide +kernel
theorem dX4_ofTwoGroups_28 : decode cX4_ofTwoGroups 28 = .ok (.aload_n 2, 1) := by decide +kernel
theorem dX4_ofTwoGroups_29 : decode cX4_ofTwoGroups 29 = .ok (.getfield 15, 3) := by decide +kernel
theorem dX4_ofTwoGroups_32 : decode cX4_ofTwoGroups 32 = .ok (.if_icmp .ge 49, 3) := by decide +kernel
theorem dX4_ofTwoGroups_35 : decode cX4_ofTwoGroups 35 = .ok (.iconst 0, 1) := by decide +kernel
theorem dX4_ofTwoGroups_36 : decode cX4_ofTwoGroups 36 = .ok (.istore 5, 2) := by decide +kernel
theorem dX4_ofTwoGroups_38 : decode cX4_ofTwoGroups 38 = .ok (.iload 5, 2) := by decide +kernel
theorem dX4_ofTwoGroups_40 : decode cX4_ofTwoGroups 40 = .ok (.aload_n 3, 1) := by decide +kernel
theorem dX4_ofTwoGroups_41 : decode cX4_ofTwoGroups 41 = .ok (.getfield 15, 3) := by decide +kernel
theorem dX4_ofTwoGroups_44 : decode cX4_ofTwoGroups 44 = .ok (.if_icmp .ge 31, 3) := by decide +kernel
theorem dX4_ofTwoGroups_47 : decode cX4_ofTwoGroups 47 = .ok (.aload_n 0, 1) := by decide +kernel
theorem dX4_ofTwoGroups_48 : decode cX4_ofTwoGroups 48 = .ok (.iload_n 1, 1) := by decide +kernel
theorem dX4_ofTwoGroups_49 : decode cX4_ofTwoGroups 49 = .ok (.aload_n 2, 1) := by decide +kernel
theorem dX4_ofTwoGroups_50 : decode cX4_ofTwoGroups 50 = .ok (.getfield 9, 3) := by decide +kernel
theorem dX4_ofTwoGroups_53 : decode cX4_ofTwoGroups 53 = .ok (.iload 4, 2) := by decide +kernel
theorem dX4_ofTwoGroups_55 : decode cX4_ofTwoGroups 55 = .ok (.laload, 1) := by decide +kernel
theorem dX4_ofTwoGroups_56 : decode cX4_ofTwoGroups 56 = .ok (.aload_n 3, 1) := by decide +kernel
theorem dX4_ofTwoGroups_57 : decode cX4_ofTwoGroups 57 = .ok (.getfield 9, 3) := by decide +kernel
theorem dX4_ofTwoGroups_60 : decode cX4_ofTwoGroups 60 = .ok (.iload 5, 2) := by decide +kernel
theorem dX4_ofTwoGroups_62 : decode cX4_ofTwoGroups 62 = .ok (.laload, 1) := by decide +kernel
theorem dX4_ofTwoGroups_63 : decode cX4_ofTwoGroups 63 = .ok (.invokestatic 42, 3) := by decide +kernel
theorem dX4_ofTwoGroups_66 : decode cX4_ofTwoGroups 66 = .ok (.invokevirtual 46, 3) := by decide +kernel
theorem dX4_ofTwoGroups_69 : decode cX4_ofTwoGroups 69 = .ok (.iinc 5 1, 3) := by decide +kernel
theorem dX4_ofTwoGroups_72 : decode cX4_ofTwoGroups 72 = .ok (.goto (-34), 3) := by decide +kernel
theorem dX4_ofTwoGroups_75 : decode cX4_ofTwoGroups 75 = .ok (.iinc 4 1, 3) := by decide +kernel
theorem dX4_ofTwoGroups_78 : decode cX4_ofTwoGroups 78 = .ok (.goto (-52), 3) := by decide +kernel
theorem dX4_ofTwoGroups_81 : decode cX4_ofTwoGroups 81 = .ok (.aload_n 0, 1) := by decide +kernel
theorem dX4_ofTwoGroups_82 : decode cX4_ofTwoGroups 82 = .ok (.invokevirtual 50, 3) := by decide +kernel
theorem dX4_ofTwoGroups_85 : decode cX4_ofTwoGroups 85 = .ok (.return_, 1) := by decide +kernel
theorem dX4_takeAll_0 : decode cX4_takeAll 0 = .ok (.iconst 0, 1) := by decide +kernel
theorem dX4_takeAll_1 : decode cX4_takeAll 1 = .ok (.istore_n 2, 1) := by decide +kernel
theorem dX4_takeAll_2 : decode cX4_takeAll 2 = .ok (.iload_n 2, 1) := by decide +kernel
theorem dX4_takeAll_3 : decode cX4_takeAll 3 = .ok (.aload_n 1, 1) := by decide +kernel
theorem dX4_takeAll_4 : decode cX4_takeAll 4 = .ok (.getfield 15, 3) := by decide +kernel
theorem dX4_takeAll_7 : decode cX4_takeAll 7 = .ok (.if_icmp .ge 19, 3) := by decide +kernel
theorem dX4_takeAll_10 : decode cX4_takeAll 10 = .ok (.aload_n 0, 1) := by decide +kernel
theorem dX4_takeAll_11 : decode cX4_takeAll 11 = .ok (.aload_n 1, 1) := by decide +kernel
theorem dX4_takeAll_12 : decode cX4_takeAll 12 = .ok (.getfield 9, 3) := by decide +kernel
theorem dX4_takeAll_15 : decode cX4_takeAll 15 = .ok (.iload_n 2, 1) := by decide +kernel
theorem dX4_takeAll_16 : decode cX4_takeAll 16 = .ok (.laload, 1) := by decide +kernel
theorem dX4_takeAll_17 : decode cX4_takeAll 17 = .ok (.invokevirtual 46, 3) := by decide +kernel
theorem dX4_takeAll_20 : decode cX4_takeAll 20 = .ok (.iinc 2 1, 3) := by decide +kernel
theorem dX4_takeAll_23 : decode cX4_takeAll 23 = .ok (.goto (-21), 3) := by decide +kernel
theorem dX4_takeAll_26 : decode cX4_takeAll 26 = .ok (.return_, 1) := by decide +kernel
theorem dX4_take_0 : decode cX4_take 0 = .ok (.aload_n 0, 1) := by decide +kernel
theorem dX4_take_1 : decode cX4_take 1 = .ok (.getfield 15, 3) := by decide +kernel
theorem dX4_take_4 : decode cX4_take 4 = .ok (.bipush 9, 2) := by decide +kernel
theorem dX4_take_6 : decode cX4_take 6 = .ok (.if_icmp .ge 23, 3) := by decide +kernel
theorem dX4_take_9 : decode cX4_take 9 = .ok (.aload_n 0, 1) := by decide +kernel
theorem dX4_take_10 : decode cX4_take 10 = .ok (.getfield 9, 3) := by decide +kernel
theorem dX4_take_13 : decode cX4_take 13 = .ok (.aload_n 0, 1) := by decide +kernel
theorem dX4_take_14 : decode cX4_take 14 = .ok (.getfield 15, 3) := by decide +kernel
theorem dX4_take_17 : decode cX4_take 17 = .ok (.lload_n 1, 1) := by decide +kernel
theorem dX4_take_18 : decode cX4_take 18 = .ok (.lastore, 1) := by decide +kernel
theorem dX4_take_19 : decode cX4_take 19 = .ok (.aload_n 0, 1) := by decide +kernel
theorem dX4_take_20 : decode cX4_take 20 = .ok (.dup, 1) := by decide +kernel
theorem dX4_take_21 : decode cX4_take 21 = .ok (.getfield 15, 3) := by decide +kernel
theorem dX4_take_24 : decode cX4_take 24 = .ok (.iconst 1, 1) := by decide +kernel
theorem dX4_take_25 : decode cX4_take 25 = .ok (.iadd, 1) := by decide +kernel
theorem dX4_take_26 : decode cX4_take 26 = .ok (.putfield 15, 3) := by decide +kernel
theorem dX4_take_29 : decode cX4_take 29 = .ok (.return_, 1) := by decide +kernel
theorem dX4_ofPair_0 : decode cX4_ofPair 0 = .ok (.lload_n 1, 1) := by decide +kernel
theorem dX4_ofPair_1 : decode cX4_ofPair 1 = .ok (.lconst 0, 1) := by decide +kernel
theorem dX4_ofPair_2 : decode cX4_ofPair 2 = .ok (.lcmp, 1) := by decide +kernel
theorem dX4_ofPair_3 : decode cX4_ofPair 3 = .ok (.ifCond .eq 15, 3) := by decide +kernel
theorem dX4_ofPair_6 : decode cX4_ofPair 6 = .ok (.lload_n 3, 1) := by decide +kernel
theorem dX4_ofPair_7 : decode cX4_ofPair 7 = .ok (.lconst 0, 1) := by decide +kernel
theorem dX4_ofPair_8 : decode cX4_ofPair 8 = .ok (.lcmp, 1) := by decide +kernel
theorem dX4_ofPair_9 : decode cX4_ofPair 9 = .ok (.ifCond .eq 9, 3) := by decide +kernel
theorem dX4_ofPair_12 : decode cX4_ofPair 12 = .ok (.lload_n 1, 1) := by decide +kernel
theorem dX4_ofPair_13 : decode cX4_ofPair 13 = .ok (.lload_n 3, 1) := by decide +kernel
theorem dX4_ofPair_14 : decode cX4_ofPair 14 = .ok (.invokestatic 53, 3) := by decide +kernel
theorem dX4_ofPair_17 : decode cX4_ofPair 17 = .ok (.lreturn, 1) := by decide +kernel
theorem dX4_ofPair_18 : decode cX4_ofPair 18 = .ok (.iload_n 0, 1) := by decide +kernel
theorem dX4_ofPair_19 : decode cX4_ofPair 19 = .ok (.tableswitch 65 0 3 #[29, 41, 65, 53], 29) := by decide +kernel
theorem dX4_ofPair_48 : decode cX4_ofPair 48 = .ok (.lload_n 1, 1) := by decide +kernel
theorem dX4_ofPair_49 : decode cX4_ofPair 49 = .ok (.lconst 0, 1) := by decide +kernel
theorem dX4_ofPair_50 : decode cX4_ofPair 50 = .ok (.lcmp, 1) := by decide +kernel
theorem dX4_ofPair_51 : decode cX4_ofPair 51 = .ok (.ifCond .ne 7, 3) := by decide +kernel
theorem dX4_ofPair_54 : decode cX4_ofPair 54 = .ok (.lload_n 3, 1) := by decide +kernel
theorem dX4_ofPair_55 : decode cX4_ofPair 55 = .ok (.goto 4, 3) := by decide +kernel
theorem dX4_ofPair_58 : decode cX4_ofPair 58 = .ok (.lconst 1, 1) := by decide +kernel
theorem dX4_ofPair_59 : decode cX4_ofPair 59 = .ok (.lreturn, 1) := by decide +kernel
theorem dX4_ofPair_60 : decode cX4_ofPair 60 = .ok (.lload_n 3, 1) := by decide +kernel
theorem dX4_ofPair_61 : decode cX4_ofPair 61 = .ok (.lconst 0, 1) := by decide +kernel
theorem dX4_ofPair_62 : decode cX4_ofPair 62 = .ok (.lcmp, 1) := by decide +kernel
theorem dX4_ofPair_63 : decode cX4_ofPair 63 = .ok (.ifCond .ne 7, 3) := by decide +kernel
theorem dX4_ofPair_66 : decode cX4_ofPair 66 = .ok (.lload_n 1, 1) := by decide +kernel
theorem dX4_ofPair_67 : decode cX4_ofPair 67 = .ok (.goto 4, 3) := by decide +kernel
theorem dX4_ofPair_70 : decode cX4_ofPair 70 = .ok (.lload_n 3, 1) := by decide +kernel
theorem dX4_ofPair_71 : decode cX4_ofPair 71 = .ok (.lreturn, 1) := by decide +kernel
theorem dX4_ofPair_72 : decode cX4_ofPair 72 = .ok (.lload_n 1, 1) := by decide +kernel
theorem dX4_ofPair_73 : decode cX4_ofPair 73 = .ok (.lconst 0, 1) := by decide +kernel
theorem dX4_ofPair_74 : decode cX4_ofPair 74 = .ok (.lcmp, 1) := by decide +kernel
theorem dX4_ofPair_75 : decode cX4_ofPair 75 = .ok (.ifCond .ne 7, 3) := by decide +kernel
theorem dX4_ofPair_78 : decode cX4_ofPair 78 = .ok (.lconst 1, 1) := by decide +kernel
theorem dX4_ofPair_79 : decode cX4_ofPair 79 = .ok (.goto 4, 3) := by decide +kernel
theorem dX4_ofPair_82 : decode cX4_ofPair 82 = .ok (.lload_n 1, 1) := by decide +kernel
theorem dX4_ofPair_83 : decode cX4_ofPair 83 = .ok (.lreturn, 1) := by decide +kernel
theorem dX4_ofPair_84 : decode cX4_ofPair 84 = .ok (.lconst 1, 1) := by decide +kernel
theorem dX4_ofPair_85 : decode cX4_ofPair 85 = .ok (.lreturn, 1) := by decide +kernel
theorem dX4_makeEachDivideTheNext_0 : decode cX4_makeEachDivideTheNext 0 = .ok (.iconst 0, 1) := by decide +kernel
theorem dX4_makeEachDivideTheNext_1 : decode cX4_makeEachDivideTheNext 1 = .ok (.istore_n 1, 1) := by decide +kernel
theorem dX4_makeEachDivideTheNext_2 : decode cX4_makeEachDivideTheNext 2 = .ok (.iload_n 1, 1) := by decide +kernel
theorem dX4_makeEachDivideTheNext_3 : decode cX4_makeEachDivideTheNext 3 = .ok (.aload_n 0, 1) := by decide +kernel
theorem dX4_makeEachDivideTheNext_4 : decode cX4_makeEachDivideTheNext 4 = .ok (.getfield 15, 3) := by decide +kernel
theorem dX4_makeEachDivideTheNext_7 : decode cX4_makeEachDivideTheNext 7 = .ok (.if_icmp .ge 77, 3) := by decide +kernel
theorem dX4_makeEachDivideTheNext_10 : decode cX4_makeEachDivideTheNext 10 = .ok (.iload_n 1, 1) := by decide +kernel
theorem dX4_makeEachDivideTheNext_11 : decode cX4_makeEachDivideTheNext 11 = .ok (.iconst 1, 1) := by decide +kernel
theorem dX4_makeEachDivideTheNext_12 : decode cX4_makeEachDivideTheNext 12 = .ok (.iadd, 1) := by decide +kernel
theorem dX4_makeEachDivideTheNext_13 : decode cX4_makeEachDivideTheNext 13 = .ok (.istore_n 2, 1) := by decide +kernel
theorem dX4_makeEachDivideTheNext_14 : decode cX4_makeEachDivideTheNext 14 = .ok (.iload_n 2, 1) := by decide +kernel
theorem dX4_makeEachDivideTheNext_15 : decode cX4_makeEachDivideTheNext 15 = .ok (.aload_n 0, 1) := by decide +kernel
theorem dX4_makeEachDivideTheNext_16 : decode cX4_makeEachDivideTheNext 16 = .ok (.getfield 15, 3) := by decide +kernel
theorem dX4_makeEachDivideTheNext_19 : decode cX4_makeEachDivideTheNext 19 = .ok (.if_icmp .ge 59, 3) := by decide +kernel
theorem dX4_makeEachDivideTheNext_22 : decode cX4_makeEachDivideTheNext 22 = .ok (.aload_n 0, 1) := by decide +kernel
theorem dX4_makeEachDivideTheNext_23 : decode cX4_makeEachDivideTheNext 23 = .ok (.getfield 9, 3) := by decide +kernel
theorem dX4_makeEachDivideTheNext_26 : decode cX4_makeEachDivideTheNext 26 = .ok (.iload_n 1, 1) := by decide +kernel
theorem dX4_makeEachDivideTheNext_27 : decode cX4_makeEachDivideTheNext 27 = .ok (.laload, 1) := by decide +kernel
theorem dX4_makeEachDivideTheNext_28 : decode cX4_makeEachDivideTheNext 28 = .ok (.aload_n 0, 1) := by decide +kernel
theorem dX4_makeEachDivideTheNext_29 : decode cX4_makeEachDivideTheNext 29 = .ok (.getfield 9, 3) := by decide +kernel
theorem dX4_makeEachDivideTheNext_32 : decode cX4_makeEachDivideTheNext 32 = .ok (.iload_n 2, 1) := by decide +kernel
theorem dX4_makeEachDivideTheNext_33 : decode cX4_makeEachDivideTheNext 33 = .ok (.laload, 1) := by decide +kernel
theorem dX4_makeEachDivideTheNext_34 : decode cX4_makeEachDivideTheNext 34 = .ok (.invokestatic 53, 3) := by decide +kernel
theorem dX4_makeEachDivideTheNext_37 : decode cX4_makeEachDivideTheNext 37 = .ok (.lstore_n 3, 1) := by decide +kernel
theorem dX4_makeEachDivideTheNext_38 : decode cX4_makeEachDivideTheNext 38 = .ok (.lload_n 3, 1) := by decide +kernel
theorem dX4_makeEachDivideTheNext_39 : decode cX4_makeEachDivideTheNext 39 = .ok (.lconst 0, 1) := by decide +kernel
theorem dX4_makeEachDivideTheNext_40 : decode cX4_makeEachDivideTheNext 40 = .ok (.lcmp, 1) := by decide +kernel
theorem dX4_makeEachDivideTheNext_41 : decode cX4_makeEachDivideTheNext 41 = .ok (.ifCond .eq 31, 3) := by decide +kernel
theorem dX4_makeEachDivideTheNext_44 : decode cX4_makeEachDivideTheNext 44 = .ok (.aload_n 0, 1) := by decide +kernel
theorem dX4_makeEachDivideTheNext_45 : decode cX4_makeEachDivideTheNext 45 = .ok (.getfield 9, 3) := by decide +kernel
theorem dX4_makeEachDivideTheNext_48 : decode cX4_makeEachDivideTheNext 48 = .ok (.iload_n 2, 1) := by decide +kernel
theorem dX4_makeEachDivideTheNext_49 : decode cX4_makeEachDivideTheNext 49 = .ok (.aload_n 0, 1) := by decide +kernel
theorem dX4_makeEachDivideTheNext_50 : decode cX4_makeEachDivideTheNext 50 = .ok (.getfield 9, 3) := by decide +kernel
theorem dX4_makeEachDivideTheNext_53 : decode cX4_makeEachDivideTheNext 53 = .ok (.iload_n 1, 1) := by decide +kernel
theorem dX4_makeEachDivideTheNext_54 : decode cX4_makeEachDivideTheNext 54 = .ok (.laload, 1) := by decide +kernel
theorem dX4_makeEachDivideTheNext_55 : decode cX4_makeEachDivideTheNext 55 = .ok (.lload_n 3, 1) := by decide +kernel
theorem dX4_makeEachDivideTheNext_56 : decode cX4_makeEachDivideTheNext 56 = .ok (.ldiv, 1) := by decide +kernel
theorem dX4_makeEachDivideTheNext_57 : decode cX4_makeEachDivideTheNext 57 = .ok (.aload_n 0, 1) := by decide +kernel
theorem dX4_makeEachDivideTheNext_58 : decode cX4_makeEachDivideTheNext 58 = .ok (.getfield 9, 3) := by decide +kernel
theorem dX4_makeEachDivideTheNext_61 : decode cX4_makeEachDivideTheNext 61 = .ok (.iload_n 2, 1) := by decide +kernel
theorem dX4_makeEachDivideTheNext_62 : decode cX4_makeEachDivideTheNext 62 = .ok (.laload, 1) := by decide +kernel
theorem dX4_makeEachDivideTheNext_63 : decode cX4_makeEachDivideTheNext 63 = .ok (.lmul, 1) := by decide +kernel
theorem dX4_makeEachDivideTheNext_64 : decode cX4_makeEachDivideTheNext 64 = .ok (.lastore, 1) := by decide +kernel
theorem dX4_makeEachDivideTheNext_65 : decode cX4_makeEachDivideTheNext 65 = .ok (.aload_n 0, 1) := by decide +kernel
theorem dX4_makeEachDivideTheNext_66 : decode cX4_makeEachDivideTheNext 66 = .ok (.getfield 9, 3) := by decide +kernel
theorem dX4_makeEachDivideTheNext_69 : decode cX4_makeEachDivideTheNext 69 = .ok (.iload_n 1, 1) := by decide +kernel
theorem dX4_makeEachDivideTheNext_70 : decode cX4_makeEachDivideTheNext 70 = .ok (.lload_n 3, 1) := by decide +kernel
theorem dX4_makeEachDivideTheNext_71 : decode cX4_makeEachDivideTheNext 71 = .ok (.lastore, 1) := by decide +kernel
theorem dX4_makeEachDivideTheNext_72 : decode cX4_makeEachDivideTheNext 72 = .ok (.iinc 2 1, 3) := by decide +kernel
theorem dX4_makeEachDivideTheNext_75 : decode cX4_makeEachDivideTheNext 75 = .ok (.goto (-61), 3) := by decide +kernel
theorem dX4_makeEachDivideTheNext_78 : decode cX4_makeEachDivideTheNext 78 = .ok (.iinc 1 1, 3) := by decide +kernel
theorem dX4_makeEachDivideTheNext_81 : decode cX4_makeEachDivideTheNext 81 = .ok (.goto (-79), 3) := by decide +kernel
theorem dX4_makeEachDivideTheNext_84 : decode cX4_makeEachDivideTheNext 84 = .ok (.return_, 1) := by decide +kernel
theorem dX4_countOwn_0 : decode cX4_countOwn 0 = .ok (.iconst 0, 1) := by decide +kernel
theorem dX4_countOwn_1 : decode cX4_countOwn 1 = .ok (.istore_n 1, 1) := by decide +kernel
theorem dX4_countOwn_2 : decode cX4_countOwn 2 = .ok (.iconst 0, 1) := by decide +kernel
theorem dX4_countOwn_3 : decode cX4_countOwn 3 = .ok (.istore_n 2, 1) := by decide +kernel
theorem dX4_countOwn_4 : decode cX4_countOwn 4 = .ok (.iload_n 2, 1) := by decide +kernel
theorem dX4_countOwn_5 : decode cX4_countOwn 5 = .ok (.aload_n 0, 1) := by decide +kernel
theorem dX4_countOwn_6 : decode cX4_countOwn 6 = .ok (.getfield 15, 3) := by decide +kernel
theorem dX4_countOwn_9 : decode cX4_countOwn 9 = .ok (.if_icmp .ge 28, 3) := by decide +kernel
theorem dX4_countOwn_12 : decode cX4_countOwn 12 = .ok (.iload_n 1, 1) := by decide +kernel
theorem dX4_countOwn_13 : decode cX4_countOwn 13 = .ok (.aload_n 0, 1) := by decide +kernel
theorem dX4_countOwn_14 : decode cX4_countOwn 14 = .ok (.getfield 9, 3) := by decide +kernel
theorem dX4_countOwn_17 : decode cX4_countOwn 17 = .ok (.iload_n 2, 1) := by decide +kernel
theorem dX4_countOwn_18 : decode cX4_countOwn 18 = .ok (.laload, 1) := by decide +kernel
theorem dX4_countOwn_19 : decode cX4_countOwn 19 = .ok (.lconst 1, 1) := by decide +kernel
theorem dX4_countOwn_20 : decode cX4_countOwn 20 = .ok (.lcmp, 1) := by decide +kernel
theorem dX4_countOwn_21 : decode cX4_countOwn 21 = .ok (.ifCond .eq 7, 3) := by decide +kernel
theorem dX4_countOwn_24 : decode cX4_countOwn 24 = .ok (.iconst 1, 1) := by decide +kernel
theorem dX4_countOwn_25 : decode cX4_countOwn 25 = .ok (.goto 4, 3) := by decide +kernel
theorem dX4_countOwn_28 : decode cX4_countOwn 28 = .ok (.iconst 0, 1) := by decide +kernel
theorem dX4_countOwn_29 : decode cX4_countOwn 29 = .ok (.iadd, 1) := by decide +kernel
theorem dX4_countOwn_30 : decode cX4_countOwn 30 = .ok (.istore_n 1, 1) := by decide +kernel
theorem dX4_countOwn_31 : decode cX4_countOwn 31 = .ok (.iinc 2 1, 3) := by decide +kernel
theorem dX4_countOwn_34 : decode cX4_countOwn 34 = .ok (.goto (-30), 3) := by decide +kernel
theorem dX4_countOwn_37 : decode cX4_countOwn 37 = .ok (.iload_n 1, 1) := by decide +kernel
theorem dX4_countOwn_38 : decode cX4_countOwn 38 = .ok (.ireturn, 1) := by decide +kernel
theorem dX4_own_0 : decode cX4_own 0 = .ok (.aload_n 0, 1) := by decide +kernel
theorem dX4_own_1 : decode cX4_own 1 = .ok (.getfield 15, 3) := by decide +kernel
theorem dX4_own_4 : decode cX4_own 4 = .ok (.aload_n 0, 1) := by decide +kernel
theorem dX4_own_5 : decode cX4_own 5 = .ok (.invokevirtual 57, 3) := by decide +kernel
theorem dX4_own_8 : decode cX4_own 8 = .ok (.isub, 1) := by decide +kernel
theorem dX4_own_9 : decode cX4_own 9 = .ok (.iload_n 1, 1) := by decide +kernel
theorem dX4_own_10 : decode cX4_own 10 = .ok (.iadd, 1) := by decide +kernel
theorem dX4_own_11 : decode cX4_own 11 = .ok (.istore_n 2, 1) := by decide +kernel
theorem dX4_own_12 : decode cX4_own 12 = .ok (.iload_n 2, 1) := by decide +kernel
theorem dX4_own_13 : decode cX4_own 13 = .ok (.ifCond .lt 20, 3) := by decide +kernel
theorem dX4_own_16 : decode cX4_own 16 = .ok (.iload_n 2, 1) := by decide +kernel
theorem dX4_own_17 : decode cX4_own 17 = .ok (.aload_n 0, 1) := by decide +kernel
theorem dX4_own_18 : decode cX4_own 18 = .ok (.getfield 15, 3) := by decide +kernel
theorem dX4_own_21 : decode cX4_own 21 = .ok (.if_icmp .ge 12, 3) := by decide +kernel
theorem dX4_own_24 : decode cX4_own 24 = .ok (.aload_n 0, 1) := by decide +kernel
theorem dX4_own_25 : decode cX4_own 25 = .ok (.getfield 9, 3) := by decide +kernel
theorem dX4_own_28 : decode cX4_own 28 = .ok (.iload_n 2, 1) := by decide +kernel
theorem dX4_own_29 : decode cX4_own 29 = .ok (.laload, 1) := by decide +kernel
theorem dX4_own_30 : decode cX4_own 30 = .ok (.goto 4, 3) := by decide +kernel
theorem dX4_own_33 : decode cX4_own 33 = .ok (.lconst 1, 1) := by decide +kernel
theorem dX4_own_34 : decode cX4_own 34 = .ok (.lreturn, 1) := by decide +kernel
theorem dX4_haveSameOwn_0 : decode cX4_haveSameOwn 0 = .ok (.aload_n 0, 1) := by decide +kernel
theorem dX4_haveSameOwn_1 : decode cX4_haveSameOwn 1 = .ok (.invokevirtual 57, 3) := by decide +kernel
theorem dX4_haveSameOwn_4 : decode cX4_haveSameOwn 4 = .ok (.istore_n 2, 1) := by decide +kernel
theorem dX4_haveSameOwn_5 : decode cX4_haveSameOwn 5 = .ok (.aload_n 1, 1) := by decide +kernel
theorem dX4_haveSameOwn_6 : decode cX4_haveSameOwn 6 = .ok (.invokevirtual 57, 3) := by decide +kernel
theorem dX4_haveSameOwn_9 : decode cX4_haveSameOwn 9 = .ok (.iload_n 2, 1) := by decide +kernel
theorem dX4_haveSameOwn_10 : decode cX4_haveSameOwn 10 = .ok (.if_icmp .eq 5, 3) := by decide +kernel
theorem dX4_haveSameOwn_13 : decode cX4_haveSameOwn 13 = .ok (.iconst 0, 1) := by decide +kernel
theorem dX4_haveSameOwn_14 : decode cX4_haveSameOwn 14 = .ok (.ireturn, 1) := by decide +kernel
theorem dX4_haveSameOwn_15 : decode cX4_haveSameOwn 15 = .ok (.iconst 0, 1) := by decide +kernel
theorem dX4_haveSameOwn_16 : decode cX4_haveSameOwn 16 = .ok (.istore_n 3, 1) := by decide +kernel
theorem dX4_haveSameOwn_17 : decode cX4_haveSameOwn 17 = .ok (.iload_n 3, 1) := by decide +kernel
theorem dX4_haveSameOwn_18 : decode cX4_haveSameOwn 18 = .ok (.iload_n 2, 1) := by decide +kernel
theorem dX4_haveSameOwn_19 : decode cX4_haveSameOwn 19 = .ok (.if_icmp .ge 25, 3) := by decide +kernel
theorem dX4_haveSameOwn_22 : decode cX4_haveSameOwn 22 = .ok (.aload_n 0, 1) := by decide +kernel
theorem dX4_haveSameOwn_23 : decode cX4_haveSameOwn 23 = .ok (.iload_n 3, 1) := by decide +kernel
theorem dX4_haveSameOwn_24 : decode cX4_haveSameOwn 24 = .ok (.invokevirtual 60, 3) := by decide +kernel
theorem dX4_haveSameOwn_27 : decode cX4_haveSameOwn 27 = .ok (.aload_n 1, 1) := by decide +kernel
theorem dX4_haveSameOwn_28 : decode cX4_haveSameOwn 28 = .ok (.iload_n 3, 1) := by decide +kernel
theorem dX4_haveSameOwn_29 : decode cX4_haveSameOwn 29 = .ok (.invokevirtual 60, 3) := by decide +kernel
theorem dX4_haveSameOwn_32 : decode cX4_haveSameOwn 32 = .ok (.lcmp, 1) := by decide +kernel
theorem dX4_haveSameOwn_33 : decode cX4_haveSameOwn 33 = .ok (.ifCond .eq 5, 3) := by decide +kernel
theorem dX4_haveSameOwn_36 : decode cX4_haveSameOwn 36 = .ok (.iconst 0, 1) := by decide +kernel
theorem dX4_haveSameOwn_37 : decode cX4_haveSameOwn 37 = .ok (.ireturn, 1) := by decide +kernel
theorem dX4_haveSameOwn_38 : decode cX4_haveSameOwn 38 = .ok (.iinc 3 1, 3) := by decide +kernel
theorem dX4_haveSameOwn_41 : decode cX4_haveSameOwn 41 = .ok (.goto (-24), 3) := by decide +kernel
theorem dX4_haveSameOwn_44 : decode cX4_haveSameOwn 44 = .ok (.iconst 1, 1) := by decide +kernel
theorem dX4_haveSameOwn_45 : decode cX4_haveSameOwn 45 = .ok (.ireturn, 1) := by decide +kernel
theorem dX5_init_0 : decode cX5_init 0 = .ok (.aload_n 0, 1) := by decide +kernel
theorem dX5_init_1 : decode cX5_init 1 = .ok (.invokespecial 3, 3) := by decide +kernel
theorem dX5_init_4 : decode cX5_init 4 = .ok (.aload_n 0, 1) := by decide +kernel
theorem dX5_init_5 : decode cX5_init 5 = .ok (.iconst (-1), 1) := by decide +kernel
theorem dX5_init_6 : decode cX5_init 6 = .ok (.putfield 9, 3) := by decide +kernel
theorem dX5_init_9 : decode cX5_init 9 = .ok (.aload_n 0, 1) := by decide +kernel
theorem dX5_init_10 : decode cX5_init 10 = .ok (.iconst 0, 1) := by decide +kernel
theorem dX5_init_11 : decode cX5_init 11 = .ok (.putfield 15, 3) := by decide +kernel
theorem dX5_init_14 : decode cX5_init 14 = .ok (.aload_n 0, 1) := by decide +kernel
theorem dX5_init_15 : decode cX5_init 15 = .ok (.bipush 40, 2) := by decide +kernel
theorem dX5_init_17 : decode cX5_init 17 = .ok (.newarray .long, 2) := by decide +kernel
theorem dX5_init_19 : decode cX5_init 19 = .ok (.putfield 18, 3) := by decide +kernel
theorem dX5_init_22 : decode cX5_init 22 = .ok (.return_, 1) := by decide +kernel
theorem dX5_renew_0 : decode cX5_renew 0 = .ok (.aload_n 0, 1) := by decide +kernel
theorem dX5_renew_1 : decode cX5_renew 1 = .ok (.iload_n 1, 1) := by decide +kernel
theorem dX5_renew_2 : decode cX5_renew 2 = .ok (.putfield 9, 3) := by decide +kernel
theorem dX5_renew_5 : decode cX5_renew 5 = .ok (.aload_n 0, 1) := by decide +kernel
theorem dX5_renew_6 : decode cX5_renew 6 = .ok (.iload_n 2, 1) := by decide +kernel
theorem dX5_renew_7 : decode cX5_renew 7 = .ok (.putfield 15, 3) := by decide +kernel
theorem dX5_renew_10 : decode cX5_renew 10 = .ok (.aload_n 0, 1) := by decide +kernel
theorem dX5_renew_11 : decode cX5_renew 11 = .ok (.getfield 18, 3) := by decide +kernel
theorem dX5_renew_14 : decode cX5_renew 14 = .ok (.lconst 0, 1) := by decide +kernel
theorem dX5_renew_15 : decode cX5_renew 15 = .ok (.invokestatic 22, 3) := by decide +kernel
theorem dX5_renew_18 : decode cX5_renew 18 = .ok (.return_, 1) := by decide +kernel
theorem dX5_refusal_0 : decode cX5_refusal 0 = .ok (.aload_n 0, 1) := by decide +kernel
theorem dX5_refusal_1 : decode cX5_refusal 1 = .ok (.getfield 9, 3) := by decide +kernel
theorem dX5_refusal_4 : decode cX5_refusal 4 = .ok (.iconst (-1), 1) := by decide +kernel
theorem dX5_refusal_5 : decode cX5_refusal 5 = .ok (.if_icmp .ne 6, 3) := by decide +kernel
theorem dX5_refusal_8 : decode cX5_refusal 8 = .ok (.bipush (-11), 2) := by decide +kernel
theorem dX5_refusal_10 : decode cX5_refusal 10 = .ok (.ireturn, 1) := by decide +kernel
theorem dX5_refusal_11 : decode cX5_refusal 11 = .ok (.aload_n 0, 1) := by decide +kernel
theorem dX5_refusal_12 : decode cX5_refusal 12 = .ok (.getfield 9, 3) := by decide +kernel
theorem dX5_refusal_15 : decode cX5_refusal 15 = .ok (.iload_n 1, 1) := by decide +kernel
theorem dX5_refusal_16 : decode cX5_refusal 16 = .ok (.if_icmp .eq 6, 3) := by decide +kernel
theorem dX5_refusal_19 : decode cX5_refusal 19 = .ok (.bipush (-13), 2) := by decide +kernel
theorem dX5_refusal_21 : decode cX5_refusal 21 = .ok (.ireturn, 1) := by decide +kernel
theorem dX5_refusal_22 : decode cX5_refusal 22 = .ok (.iload_n 3, 1) := by decide +kernel
theorem dX5_refusal_23 : decode cX5_refusal 23 = .ok (.ifCond .le 21, 3) := by decide +kernel
theorem dX5_refusal_26 : decode cX5_refusal 26 = .ok (.iload_n 2, 1) := by decide +kernel
theorem dX5_refusal_27 : decode cX5_refusal 27 = .ok (.ifCond .lt 13, 3) := by decide +kernel
theorem dX5_refusal_30 : decode cX5_refusal 30 = .ok (.iload_n 2, 1) := by decide +kernel
theorem dX5_refusal_31 : decode cX5_refusal 31 = .ok (.aload_n 0, 1) := by decide +kernel
theorem dX5_refusal_32 : decode cX5_refusal 32 = .ok (.getfield 15, 3) := by decide +kernel
theorem dX5_refusal_35 : decode cX5_refusal 35 = .ok (.iload_n 3, 1) := by decide +kernel
theorem dX5_refusal_36 : decode cX5_refusal 36 = .ok (.isub, 1) := by decide +kernel
theorem dX5_refusal_37 : decode cX5_refusal 37 = .ok (.if_icmp .le 7, 3) := by decide +kernel
theorem dX5_refusal_40 : decode cX5_refusal 40 = .ok (.iconst 1, 1) := by decide +kernel
theorem dX5_refusal_41 : decode cX5_refusal 41 = .ok (.goto 4, 3) := by decide +kernel
theorem dX5_refusal_44 : decode cX5_refusal 44 = .ok (.iconst 0, 1) := by decide +kernel
theorem dX5_refusal_45 : decode cX5_refusal 45 = .ok (.istore 4, 2) := by decide +kernel
theorem dX5_refusal_47 : decode cX5_refusal 47 = .ok (.iload 4, 2) := by decide +kernel
theorem dX5_refusal_49 : decode cX5_refusal 49 = .ok (.ifCond .eq 8, 3) := by decide +kernel
theorem dX5_refusal_52 : decode cX5_refusal 52 = .ok (.bipush (-12), 2) := by decide +kernel
theorem dX5_refusal_54 : decode cX5_refusal 54 = .ok (.goto 4, 3) := by decide +kernel
theorem dX5_refusal_57 : decode cX5_refusal 57 = .ok (.iconst 0, 1) := by decide +kernel
theorem dX5_refusal_58 : decode cX5_refusal 58 = .ok (.ireturn, 1) := by decide +kernel
theorem dX5_areWithin_0 : decode cX5_areWithin 0 = .ok (.iload_n 1, 1) := by decide +kernel
theorem dX5_areWithin_1 : decode cX5_areWithin 1 = .ok (.istore 5, 2) := by decide +kernel
theorem dX5_areWithin_3 : decode cX5_areWithin 3 = .ok (.iload 5, 2) := by decide +kernel
theorem dX5_areWithin_5 : decode cX5_areWithin 5 = .ok (.iload_n 1, 1) := by decide +kernel
theorem dX5_areWithin_6 : decode cX5_areWithin 6 = .ok (.iload_n 2, 1) := by decide +kernel
theorem dX5_areWithin_7 : decode cX5_areWithin 7 = .ok (.iadd, 1) := by decide +kernel
theorem dX5_areWithin_8 : decode cX5_areWithin 8 = .ok (.if_icmp .ge 36, 3) := by decide +kernel
theorem dX5_areWithin_11 : decode cX5_areWithin 11 = .ok (.aload_n 0, 1) := by decide +kernel
theorem dX5_areWithin_12 : decode cX5_areWithin 12 = .ok (.getfield 18, 3) := by decide +kernel
theorem dX5_areWithin_15 : decode cX5_areWithin 15 = .ok (.iload 5, 2) := by decide +kernel
theorem dX5_areWithin_17 : decode cX5_areWithin 17 = .ok (.laload, 1) := by decide +kernel
theorem dX5_areWithin_18 : decode cX5_areWithin 18 = .ok (.lload_n 3, 1) := by decide +kernel
theorem dX5_areWithin_19 : decode cX5_areWithin 19 = .ok (.lneg, 1) := by decide +kernel
theorem dX5_areWithin_20 : decode cX5_areWithin 20 = .ok (.lcmp, 1) := by decide +kernel
theorem dX5_areWithin_21 : decode cX5_areWithin 21 = .ok (.ifCond .lt 15, 3) := by decide +kernel
theorem dX5_areWithin_24 : decode cX5_areWithin 24 = .ok (.aload_n 0, 1) := by decide +kernel
theorem dX5_areWithin_25 : decode cX5_areWithin 25 = .ok (.getfield 18, 3) := by decide +kernel
theorem dX5_areWithin_28 : decode cX5_areWithin 28 = .ok (.iload 5, 2) := by decide +kernel
theorem dX5_areWithin_30 : decode cX5_areWithin 30 = .ok (.laload, 1) := by decide +kernel
theorem dX5_areWithin_31 : decode cX5_areWithin 31 = .ok (.lload_n 3, 1) := by decide +kernel
theorem dX5_areWithin_32 : decode cX5_areWithin 32 = .ok (.lcmp, 1) := by decide +kernel
theorem dX5_areWithin_33 : decode cX5_areWithin 33 = .ok (.ifCond .le 5, 3) := by decide +kernel
theorem dX5_areWithin_36 : decode cX5_areWithin 36 = .ok (.iconst 0, 1) := by decide +kernel
theorem dX5_areWithin_37 : decode cX5_areWithin 37 = .ok (.ireturn, 1) := by decide +kernel
theorem dX5_areWithin_38 : decode cX5_areWithin 38 = .ok (.iinc 5 1, 3) := by decide +kernel
theorem dX5_areWithin_41 : decode cX5_areWithin 41 = .ok (.goto (-38), 3) := by decide +kernel
theorem dX5_areWithin_44 : decode cX5_areWithin 44 = .ok (.iconst 1, 1) := by decide +kernel
theorem dX5_areWithin_45 : decode cX5_areWithin 45 = .ok (.ireturn, 1) := by decide +kernel
theorem dX6_init_0 : decode cX6_init 0 = .ok (.aload_n 0, 1) := by decide +kernel
theorem dX6_init_1 : decode cX6_init 1 = .ok (.invokespecial 3, 3) := by decide +kernel
theorem dX6_init_4 : decode cX6_init 4 = .ok (.aload_n 0, 1) := by decide +kernel
theorem dX6_init_5 : decode cX6_init 5 = .ok (.iconst (-1), 1) := by decide +kernel
theorem dX6_init_6 : decode cX6_init 6 = .ok (.putfield 9, 3) := by decide +kernel
theorem dX6_init_9 : decode cX6_init 9 = .ok (.aload_n 0, 1) := by decide +kernel
theorem dX6_init_10 : decode cX6_init 10 = .ok (.iconst 3, 1) := by decide +kernel
theorem dX6_init_11 : decode cX6_init 11 = .ok (.newarray .long, 2) := by decide +kernel
theorem dX6_init_13 : decode cX6_init 13 = .ok (.putfield 15, 3) := by decide +kernel
theorem dX6_init_16 : decode cX6_init 16 = .ok (.aload_n 0, 1) := by decide +kernel
theorem dX6_init_17 : decode cX6_init 17 = .ok (.iconst (-1), 1) := by decide +kernel
theorem dX6_init_18 : decode cX6_init 18 = .ok (.putfield 19, 3) := by decide +kernel
theorem dX6_init_21 : decode cX6_init 21 = .ok (.aload_n 0, 1) := by decide +kernel
theorem dX6_init_22 : decode cX6_init 22 = .ok (.iconst 0, 1) := by decide +kernel
theorem dX6_init_23 : decode cX6_init 23 = .ok (.putfield 22, 3) := by decide +kernel
theorem dX6_init_26 : decode cX6_init 26 = .ok (.return_, 1) := by decide +kernel
theorem dX6_isEmpty_0 : decode cX6_isEmpty 0 = .ok (.aload_n 0, 1) := by decide +kernel
theorem dX6_isEmpty_1 : decode cX6_isEmpty 1 = .ok (.getfield 9, 3) := by decide +kernel
theorem dX6_isEmpty_4 : decode cX6_isEmpty 4 = .ok (.iconst (-1), 1) := by decide +kernel
theorem dX6_isEmpty_5 : decode cX6_isEmpty 5 = .ok (.if_icmp .ne 15, 3) := by decide +kernel
theorem dX6_isEmpty_8 : decode cX6_isEmpty 8 = .ok (.aload_n 0, 1) := by decide +kernel
theorem dX6_isEmpty_9 : decode cX6_isEmpty 9 = .ok (.getfield 19, 3) := by decide +kernel
theorem dX6_isEmpty_12 : decode cX6_isEmpty 12 = .ok (.iconst (-1), 1) := by decide +kernel
theorem dX6_isEmpty_13 : decode cX6_isEmpty 13 = .ok (.if_icmp .ne 7, 3) := by decide +kernel
theorem dX6_isEmpty_16 : decode cX6_isEmpty 16 = .ok (.iconst 1, 1) := by decide +kernel
theorem dX6_isEmpty_17 : decode cX6_isEmpty 17 = .ok (.goto 4, 3) := by decide +kernel
theorem dX6_isEmpty_20 : decode cX6_isEmpty 20 = .ok (.iconst 0, 1) := by decide +kernel
theorem dX6_isEmpty_21 : decode cX6_isEmpty 21 = .ok (.ireturn, 1) := by decide +kernel
theorem dX6_takeElement_0 : decode cX6_takeElement 0 = .ok (.aload_n 0, 1) := by decide +kernel
theorem dX6_takeElement_1 : decode cX6_takeElement 1 = .ok (.iload_n 1, 1) := by decide +kernel
theorem dX6_takeElement_2 : decode cX6_takeElement 2 = .ok (.putfield 9, 3) := by decide +kernel
theorem dX6_takeElement_5 : decode cX6_takeElement 5 = .ok (.aload_n 0, 1) := by decide +kernel
theorem dX6_takeElement_6 : decode cX6_takeElement 6 = .ok (.iconst (-1), 1) := by decide +kernel
theorem dX6_takeElement_7 : decode cX6_takeElement 7 = .ok (.putfield 19, 3) := by decide +kernel
theorem dX6_takeElement_10 : decode cX6_takeElement 10 = .ok (.aload_n 0, 1) := by decide +kernel
theorem dX6_takeElement_11 : decode cX6_takeElement 11 = .ok (.iconst 0, 1) := by decide +kernel
theorem dX6_takeElement_12 : decode cX6_takeElement 12 = .ok (.putfield 22, 3) := by decide +kernel
theorem dX6_takeElement_15 : decode cX6_takeElement 15 = .ok (.aload_n 2, 1) := by decide +kernel
theorem dX6_takeElement_16 : decode cX6_takeElement 16 = .ok (.iconst 0, 1) := by decide +kernel
theorem dX6_takeElement_17 : decode cX6_takeElement 17 = .ok (.aload_n 0, 1) := by decide +kernel
theorem dX6_takeElement_18 : decode cX6_takeElement 18 = .ok (.getfield 15, 3) := by decide +kernel
theorem dX6_takeElement_21 : decode cX6_takeElement 21 = .ok (.iconst 0, 1) := by decide +kernel
theorem dX6_takeElement_22 : decode cX6_takeElement 22 = .ok (.iconst 3, 1) := by decide +kernel
theorem dX6_takeElement_23 : decode cX6_takeElement 23 = .ok (.invokestatic 25, 3) := by decide +kernel
theorem dX6_takeElement_26 : decode cX6_takeElement 26 = .ok (.return_, 1) := by decide +kernel
theorem dX6_takeRow_0 : decode cX6_takeRow 0 = .ok (.aload_n 0, 1) := by decide +kernel
theorem dX6_takeRow_1 : decode cX6_takeRow 1 = .ok (.iconst (-1), 1) := by decide +kernel
theorem dX6_takeRow_2 : decode cX6_takeRow 2 = .ok (.putfield 9, 3) := by decide +kernel
theorem dX6_takeRow_5 : decode cX6_takeRow 5 = .ok (.aload_n 0, 1) := by decide +kernel
theorem dX6_takeRow_6 : decode cX6_takeRow 6 = .ok (.iload_n 1, 1) := by decide +kernel
theorem dX6_takeRow_7 : decode cX6_takeRow 7 = .ok (.putfield 19, 3) := by decide +kernel
theorem dX6_takeRow_10 : decode cX6_takeRow 10 = .ok (.aload_n 0, 1) := by decide +kernel
theorem dX6_takeRow_11 : decode cX6_takeRow 11 = .ok (.iload_n 2, 1) := by decide +kernel
theorem dX6_takeRow_12 : decode cX6_takeRow 12 = .ok (.putfield 22, 3) := by decide +kernel
theorem dX6_takeRow_15 : decode cX6_takeRow 15 = .ok (.return_, 1) := by decide +kernel
theorem dX7_init_0 : decode cX7_init 0 = .ok (.aload_n 0, 1) := by decide +kernel
theorem dX7_init_1 : decode cX7_init 1 = .ok (.invokespecial 3, 3) := by decide +kernel
theorem dX7_init_4 : decode cX7_init 4 = .ok (.aload_n 0, 1) := by decide +kernel
theorem dX7_init_5 : decode cX7_init 5 = .ok (.bipush 6, 2) := by decide +kernel
theorem dX7_init_7 : decode cX7_init 7 = .ok (.newarray .int, 2) := by decide +kernel
theorem dX7_init_9 : decode cX7_init 9 = .ok (.putfield 9, 3) := by decide +kernel
theorem dX7_init_12 : decode cX7_init 12 = .ok (.aload_n 0, 1) := by decide +kernel
theorem dX7_init_13 : decode cX7_init 13 = .ok (.bipush 6, 2) := by decide +kernel
theorem dX7_init_15 : decode cX7_init 15 = .ok (.newarray .int, 2) := by decide +kernel
theorem dX7_init_17 : decode cX7_init 17 = .ok (.putfield 15, 3) := by decide +kernel
theorem dX7_init_20 : decode cX7_init 20 = .ok (.aload_n 0, 1) := by decide +kernel
theorem dX7_init_21 : decode cX7_init 21 = .ok (.bipush 72, 2) := by decide +kernel
theorem dX7_init_23 : decode cX7_init 23 = .ok (.newarray .int, 2) := by decide +kernel
theorem dX7_init_25 : decode cX7_init 25 = .ok (.putfield 18, 3) := by decide +kernel
theorem dX7_init_28 : decode cX7_init 28 = .ok (.aload_n 0, 1) := by decide +kernel
theorem dX7_init_29 : decode cX7_init 29 = .ok (.bipush 8, 2) := by decide +kernel
theorem dX7_init_31 : decode cX7_init 31 = .ok (.newarray .int, 2) := by decide +kernel
theorem dX7_init_33 : decode cX7_init 33 = .ok (.putfield 21, 3) := by decide +kernel
theorem dX7_init_36 : decode cX7_init 36 = .ok (.aload_n 0, 1) := by decide +kernel
theorem dX7_init_37 : decode cX7_init 37 = .ok (.bipush 8, 2) := by decide +kernel
theorem dX7_init_39 : decode cX7_init 39 = .ok (.newarray .int, 2) := by decide +kernel
theorem dX7_init_41 : decode cX7_init 41 = .ok (.putfield 24, 3) := by decide +kernel
theorem dX7_init_44 : decode cX7_init 44 = .ok (.aload_n 0, 1) := by decide +kernel
theorem dX7_init_45 : decode cX7_init 45 = .ok (.bipush 72, 2) := by decide +kernel
theorem dX7_init_47 : decode cX7_init 47 = .ok (.newarray .int, 2) := by decide +kernel
theorem dX7_init_49 : decode cX7_init 49 = .ok (.putfield 27, 3) := by decide +kernel
theorem dX7_init_52 : decode cX7_init 52 = .ok (.aload_n 0, 1) := by decide +kernel
theorem dX7_init_53 : decode cX7_init 53 = .ok (.iconst 0, 1) := by decide +kernel
theorem dX7_init_54 : decode cX7_init 54 = .ok (.putfield 30, 3) := by decide +kernel
theorem dX7_init_57 : decode cX7_init 57 = .ok (.aload_n 0, 1) := by decide +kernel
theorem dX7_init_58 : decode cX7_init 58 = .ok (.bipush 12, 2) := by decide +kernel
theorem dX7_init_60 : decode cX7_init 60 = .ok (.newarray .int, 2) := by decide +kernel
theorem dX7_init_62 : decode cX7_init 62 = .ok (.putfield 34, 3) := by decide +kernel
theorem dX7_init_65 : decode cX7_init 65 = .ok (.aload_n 0, 1) := by decide +kernel
theorem dX7_init_66 : decode cX7_init 66 = .ok (.bipush 12, 2) := by decide +kernel
theorem dX7_init_68 : decode cX7_init 68 = .ok (.newarray .int, 2) := by decide +kernel
theorem dX7_init_70 : decode cX7_init 70 = .ok (.putfield 37, 3) := by decide +kernel
theorem dX7_init_73 : decode cX7_init 73 = .ok (.aload_n 0, 1) := by decide +kernel
theorem dX7_init_74 : decode cX7_init 74 = .ok (.bipush 12, 2) := by decide +kernel
theorem dX7_init_76 : decode cX7_init 76 = .ok (.newarray .int, 2) := by decide +kernel
theorem dX7_init_78 : decode cX7_init 78 = .ok (.putfield 40, 3) := by decide +kernel
theorem dX7_init_81 : decode cX7_init 81 = .ok (.aload_n 0, 1) := by decide +kernel
theorem dX7_init_82 : decode cX7_init 82 = .ok (.bipush 12, 2) := by decide +kernel
theorem dX7_init_84 : decode cX7_init 84 = .ok (.newarray .int, 2) := by decide +kernel
theorem dX7_init_86 : decode cX7_init 86 = .ok (.putfield 43, 3) := by decide +kernel
theorem dX7_init_89 : decode cX7_init 89 = .ok (.aload_n 0, 1) := by decide +kernel
theorem dX7_init_90 : decode cX7_init 90 = .ok (.bipush 12, 2) := by decide +kernel
theorem dX7_init_92 : decode cX7_init 92 = .ok (.newarray .int, 2) := by decide +kernel
theorem dX7_init_94 : decode cX7_init 94 = .ok (.putfield 46, 3) := by decide +kernel
theorem dX7_init_97 : decode cX7_init 97 = .ok (.aload_n 0, 1) := by decide +kernel
theorem dX7_init_98 : decode cX7_init 98 = .ok (.bipush 12, 2) := by decide +kernel
theorem dX7_init_100 : decode cX7_init 100 = .ok (.newarray .int, 2) := by decide +kernel
theorem dX7_init_102 : decode cX7_init 102 = .ok (.putfield 49, 3) := by decide +kernel
theorem dX7_init_105 : decode cX7_init 105 = .ok (.aload_n 0, 1) := by decide +kernel
theorem dX7_init_106 : decode cX7_init 106 = .ok (.bipush 108, 2) := by decide +kernel
theorem dX7_init_108 : decode cX7_init 108 = .ok (.newarray .int, 2) := by decide +kernel
theorem dX7_init_110 : decode cX7_init 110 = .ok (.putfield 52, 3) := by decide +kernel
theorem dX7_init_113 : decode cX7_init 113 = .ok (.aload_n 0, 1) := by decide +kernel
theorem dX7_init_114 : decode cX7_init 114 = .ok (.getfield 21, 3) := by decide +kernel
theorem dX7_init_117 : decode cX7_init 117 = .ok (.iconst (-1), 1) := by decide +kernel
theorem dX7_init_118 : decode cX7_init 118 = .ok (.invokestatic 55, 3) := by decide +kernel
theorem dX7_init_121 : decode cX7_init 121 = .ok (.aload_n 0, 1) := by decide +kernel
theorem dX7_init_122 : decode cX7_init 122 = .ok (.getfield 24, 3) := by decide +kernel
theorem dX7_init_125 : decode cX7_init 125 = .ok (.iconst (-1), 1) := by decide +kernel
theorem dX7_init_126 : decode cX7_init 126 = .ok (.invokestatic 55, 3) := by decide +kernel
theorem dX7_init_129 : decode cX7_init 129 = .ok (.return_, 1) := by decide +kernel
theorem dX7_becomeAs_0 : decode cX7_becomeAs 0 = .ok (.aload_n 1, 1) := by decide +kernel
theorem dX7_becomeAs_1 : decode cX7_becomeAs 1 = .ok (.getfield 9, 3) := by decide +kernel
theorem dX7_becomeAs_4 : decode cX7_becomeAs 4 = .ok (.aload_n 0, 1) := by decide +kernel
theorem dX7_becomeAs_5 : decode cX7_becomeAs 5 = .ok (.getfield 9, 3) := by decide +kernel
theorem dX7_becomeAs_8 : decode cX7_becomeAs 8 = .ok (.invokestatic 61, 3) := by decide +kernel
theorem dX7_becomeAs_11 : decode cX7_becomeAs 11 = .ok (.aload_n 1, 1) := by decide +kernel
theorem dX7_becomeAs_12 : decode cX7_becomeAs 12 = .ok (.getfield 15, 3) := by decide +kernel
theorem dX7_becomeAs_15 : decode cX7_becomeAs 15 = .ok (.aload_n 0, 1) := by decide +kernel
theorem dX7_becomeAs_16 : decode cX7_becomeAs 16 = .ok (.getfield 15, 3) := by decide +kernel
theorem dX7_becomeAs_19 : decode cX7_becomeAs 19 = .ok (.invokestatic 61, 3) := by decide +kernel
theorem dX7_becomeAs_22 : decode cX7_becomeAs 22 = .ok (.aload_n 1, 1) := by decide +kernel
theorem dX7_becomeAs_23 : decode cX7_becomeAs 23 = .ok (.getfield 18, 3) := by decide +kernel
theorem dX7_becomeAs_26 : decode cX7_becomeAs 26 = .ok (.aload_n 0, 1) := by decide +kernel
theorem dX7_becomeAs_27 : decode cX7_becomeAs 27 = .ok (.getfield 18, 3) := by decide +kernel
theorem dX7_becomeAs_30 : decode cX7_becomeAs 30 = .ok (.invokestatic 61, 3) := by decide +kernel
theorem dX7_becomeAs_33 : decode cX7_becomeAs 33 = .ok (.aload_n 1, 1) := by decide +kernel
theorem dX7_becomeAs_34 : decode cX7_becomeAs 34 = .ok (.getfield 21, 3) := by decide +kernel
theorem dX7_becomeAs_37 : decode cX7_becomeAs 37 = .ok (.aload_n 0, 1) := by decide +kernel
theorem dX7_becomeAs_38 : decode cX7_becomeAs 38 = .ok (.getfield 21, 3) := by decide +kernel
theorem dX7_becomeAs_41 : decode cX7_becomeAs 41 = .ok (.invokestatic 61, 3) := by decide +kernel
theorem dX7_becomeAs_44 : decode cX7_becomeAs 44 = .ok (.aload_n 1, 1) := by decide +kernel
theorem dX7_becomeAs_45 : decode cX7_becomeAs 45 = .ok (.getfield 24, 3) := by decide +kernel
theorem dX7_becomeAs_48 : decode cX7_becomeAs 48 = .ok (.aload_n 0, 1) := by decide +kernel
theorem dX7_becomeAs_49 : decode cX7_becomeAs 49 = .ok (.getfield 24, 3) := by decide +kernel
theorem dX7_becomeAs_52 : decode cX7_becomeAs 52 = .ok (.invokestatic 61, 3) := by decide +kernel
theorem dX7_becomeAs_55 : decode cX7_becomeAs 55 = .ok (.aload_n 1, 1) := by decide +kernel
theorem dX7_becomeAs_56 : decode cX7_becomeAs 56 = .ok (.getfield 27, 3) := by decide +kernel
theorem dX7_becomeAs_59 : decode cX7_becomeAs 59 = .ok (.aload_n 0, 1) := by decide +kernel
theorem dX7_becomeAs_60 : decode cX7_becomeAs 60 = .ok (.getfield 27, 3) := by decide +kernel
theorem dX7_becomeAs_63 : decode cX7_becomeAs 63 = .ok (.invokestatic 61, 3) := by decide +kernel
theorem dX7_becomeAs_66 : decode cX7_becomeAs 66 = .ok (.aload_n 0, 1) := by decide +kernel
theorem dX7_becomeAs_67 : decode cX7_becomeAs 67 = .ok (.aload_n 1, 1) := by decide +kernel
theorem dX7_becomeAs_68 : decode cX7_becomeAs 68 = .ok (.getfield 30, 3) := by decide +kernel
theorem dX7_becomeAs_71 : decode cX7_becomeAs 71 = .ok (.putfield 30, 3) := by decide +kernel
theorem dX7_becomeAs_74 : decode cX7_becomeAs 74 = .ok (.aload_n 1, 1) := by decide +kernel
theorem dX7_becomeAs_75 : decode cX7_becomeAs 75 = .ok (.getfield 34, 3) := by decide +kernel
theorem dX7_becomeAs_78 : decode cX7_becomeAs 78 = .ok (.aload_n 0, 1) := by decide +kernel
theorem dX7_becomeAs_79 : decode cX7_becomeAs 79 = .ok (.getfield 34, 3) := by decide +kernel
theorem dX7_becomeAs_82 : decode cX7_becomeAs 82 = .ok (.invokestatic 61, 3) := by decide +kernel
theorem dX7_becomeAs_85 : decode cX7_becomeAs 85 = .ok (.aload_n 1, 1) := by decide +kernel
theorem dX7_becomeAs_86 : decode cX7_becomeAs 86 = .ok (.getfield 37, 3) := by decide +kernel
theorem dX7_becomeAs_89 : decode cX7_becomeAs 89 = .ok (.aload_n 0, 1) := by decide +kernel
theorem dX7_becomeAs_90 : decode cX7_becomeAs 90 = .ok (.getfield 37, 3) := by decide +kernel
theorem dX7_becomeAs_93 : decode cX7_becomeAs 93 = .ok (.invokestatic 61, 3) := by decide +kernel
theorem dX7_becomeAs_96 : decode cX7_becomeAs 96 = .ok (.aload_n 1, 1) := by decide +kernel
theorem dX7_becomeAs_97 : decode cX7_becomeAs 97 = .ok (.getfield 40, 3) := by decide +kernel
theorem dX7_becomeAs_100 : decode cX7_becomeAs 100 = .ok (.aload_n 0, 1) := by decide +kernel
theorem dX7_becomeAs_101 : decode cX7_becomeAs 101 = .ok (.getfield 40, 3) := by decide +kernel
theorem dX7_becomeAs_104 : decode cX7_becomeAs 104 = .ok (.invokestatic 61, 3) := by decide +kernel
theorem dX7_becomeAs_107 : decode cX7_becomeAs 107 = .ok (.aload_n 1, 1) := by decide +kernel
theorem dX7_becomeAs_108 : decode cX7_becomeAs 108 = .ok (.getfield 43, 3) := by decide +kernel
theorem dX7_becomeAs_111 : decode cX7_becomeAs 111 = .ok (.aload_n 0, 1) := by decide +kernel
theorem dX7_becomeAs_112 : decode cX7_becomeAs 112 = .ok (.getfield 43, 3) := by decide +kernel
theorem dX7_becomeAs_115 : decode cX7_becomeAs 115 = .ok (.invokestatic 61, 3) := by decide +kernel
theorem dX7_becomeAs_118 : decode cX7_becomeAs 118 = .ok (.aload_n 1, 1) := by decide +kernel
theorem dX7_becomeAs_119 : decode cX7_becomeAs 119 = .ok (.getfield 46, 3) := by decide +kernel
theorem dX7_becomeAs_122 : decode cX7_becomeAs 122 = .ok (.aload_n 0, 1) := by decide +kernel
theorem dX7_becomeAs_123 : decode cX7_becomeAs 123 = .ok (.getfield 46, 3) := by decide +kernel
theorem dX7_becomeAs_126 : decode cX7_becomeAs 126 = .ok (.invokestatic 61, 3) := by decide +kernel
theorem dX7_becomeAs_129 : decode cX7_becomeAs 129 = .ok (.aload_n 1, 1) := by decide +kernel
theorem dX7_becomeAs_130 : decode cX7_becomeAs 130 = .ok (.getfield 49, 3) := by decide +kernel
theorem dX7_becomeAs_133 : decode cX7_becomeAs 133 = .ok (.aload_n 0, 1) := by decide +kernel
theorem dX7_becomeAs_134 : decode cX7_becomeAs 134 = .ok (.getfield 49, 3) := by decide +kernel
theorem dX7_becomeAs_137 : decode cX7_becomeAs 137 = .ok (.invokestatic 61, 3) := by decide +kernel
theorem dX7_becomeAs_140 : decode cX7_becomeAs 140 = .ok (.aload_n 1, 1) := by decide +kernel
theorem dX7_becomeAs_141 : decode cX7_becomeAs 141 = .ok (.getfield 52, 3) := by decide +kernel
theorem dX7_becomeAs_144 : decode cX7_becomeAs 144 = .ok (.aload_n 0, 1) := by decide +kernel
theorem dX7_becomeAs_145 : decode cX7_becomeAs 145 = .ok (.getfield 52, 3) := by decide +kernel
theorem dX7_becomeAs_148 : decode cX7_becomeAs 148 = .ok (.invokestatic 61, 3) := by decide +kernel
theorem dX7_becomeAs_151 : decode cX7_becomeAs 151 = .ok (.return_, 1) := by decide +kernel
theorem dX7_copyAll_0 : decode cX7_copyAll 0 = .ok (.aload_n 0, 1) := by decide +kernel
theorem dX7_copyAll_1 : decode cX7_copyAll 1 = .ok (.iconst 0, 1) := by decide +kernel
theorem dX7_copyAll_2 : decode cX7_copyAll 2 = .ok (.aload_n 1, 1) := by decide +kernel
theorem dX7_copyAll_3 : decode cX7_copyAll 3 = .ok (.iconst 0, 1) := by decide +kernel
theorem dX7_copyAll_4 : decode cX7_copyAll 4 = .ok (.aload_n 0, 1) := by decide +kernel
theorem dX7_copyAll_5 : decode cX7_copyAll 5 = .ok (.arraylength, 1) := by decide +kernel
theorem dX7_copyAll_6 : decode cX7_copyAll 6 = .ok (.aload_n 1, 1) := by decide +kernel
theorem dX7_copyAll_7 : decode cX7_copyAll 7 = .ok (.arraylength, 1) := by decide +kernel
theorem dX7_copyAll_8 : decode cX7_copyAll 8 = .ok (.invokestatic 65, 3) := by decide +kernel
theorem dX7_copyAll_11 : decode cX7_copyAll 11 = .ok (.invokestatic 71, 3) := by decide +kernel
theorem dX7_copyAll_14 : decode cX7_copyAll 14 = .ok (.return_, 1) := by decide +kernel
theorem dX7_renewGroup_0 : decode cX7_renewGroup 0 = .ok (.aload_n 0, 1) := by decide +kernel
theorem dX7_renewGroup_1 : decode cX7_renewGroup 1 = .ok (.getfield 9, 3) := by decide +kernel
theorem dX7_renewGroup_4 : decode cX7_renewGroup 4 = .ok (.iload_n 1, 1) := by decide +kernel
theorem dX7_renewGroup_5 : decode cX7_renewGroup 5 = .ok (.iload_n 2, 1) := by decide +kernel
theorem dX7_renewGroup_6 : decode cX7_renewGroup 6 = .ok (.iastore, 1) := by decide +kernel
theorem dX7_renewGroup_7 : decode cX7_renewGroup 7 = .ok (.aload_n 0, 1) := by decide +kernel
theorem dX7_renewGroup_8 : decode cX7_renewGroup 8 = .ok (.getfield 15, 3) := by decide +kernel
theorem dX7_renewGroup_11 : decode cX7_renewGroup 11 = .ok (.iload_n 1, 1) := by decide +kernel
theorem dX7_renewGroup_12 : decode cX7_renewGroup 12 = .ok (.iconst 0, 1) := by decide +kernel
theorem dX7_renewGroup_13 : decode cX7_renewGroup 13 = .ok (.iastore, 1) := by decide +kernel
theorem dX7_renewGroup_14 : decode cX7_renewGroup 14 = .ok (.iconst 0, 1) := by decide +kernel
theorem dX7_renewGroup_15 : decode cX7_renewGroup 15 = .ok (.istore_n 3, 1) := by decide +kernel
theorem dX7_renewGroup_16 : decode cX7_renewGroup 16 = .ok (.iload_n 3, 1) := by decide +kernel
theorem dX7_renewGroup_17 : decode cX7_renewGroup 17 = .ok (.bipush 8, 2) := by decide +kernel
theorem dX7_renewGroup_19 : decode cX7_renewGroup 19 = .ok (.if_icmp .ge 43, 3) := by decide +kernel
theorem dX7_renewGroup_22 : decode cX7_renewGroup 22 = .ok (.aload_n 0, 1) := by decide +kernel
theorem dX7_renewGroup_23 : decode cX7_renewGroup 23 = .ok (.getfield 21, 3) := by decide +kernel
theorem dX7_renewGroup_26 : decode cX7_renewGroup 26 = .ok (.iload_n 3, 1) := by decide +kernel
theorem dX7_renewGroup_27 : decode cX7_renewGroup 27 = .ok (.iaload, 1) := by decide +kernel
theorem dX7_renewGroup_28 : decode cX7_renewGroup 28 = .ok (.iload_n 1, 1) := by decide +kernel
theorem dX7_renewGroup_29 : decode cX7_renewGroup 29 = .ok (.if_icmp .eq 13, 3) := by decide +kernel
theorem dX7_renewGroup_32 : decode cX7_renewGroup 32 = .ok (.aload_n 0, 1) := by decide +kernel
theorem dX7_renewGroup_33 : decode cX7_renewGroup 33 = .ok (.getfield 24, 3) := by decide +kernel
theorem dX7_renewGroup_36 : decode cX7_renewGroup 36 = .ok (.iload_n 3, 1) := by decide +kernel
theorem dX7_renewGroup_37 : decode cX7_renewGroup 37 = .ok (.iaload, 1) := by decide +kernel
theorem dX7_renewGroup_38 : decode cX7_renewGroup 38 = .ok (.iload_n 1, 1) := by decide +kernel
theorem dX7_renewGroup_39 : decode cX7_renewGroup 39 = .ok (.if_icmp .ne 17, 3) := by decide +kernel
theorem dX7_renewGroup_42 : decode cX7_renewGroup 42 = .ok (.aload_n 0, 1) := by decide +kernel
theorem dX7_renewGroup_43 : decode cX7_renewGroup 43 = .ok (.getfield 21, 3) := by decide +kernel
theorem dX7_renewGroup_46 : decode cX7_renewGroup 46 = .ok (.iload_n 3, 1) := by decide +kernel
theorem dX7_renewGroup_47 : decode cX7_renewGroup 47 = .ok (.iconst (-1), 1) := by decide +kernel
theorem dX7_renewGroup_48 : decode cX7_renewGroup 48 = .ok (.iastore, 1) := by decide +kernel
theorem dX7_renewGroup_49 : decode cX7_renewGroup 49 = .ok (.aload_n 0, 1) := by decide +kernel
theorem dX7_renewGroup_50 : decode cX7_renewGroup 50 = .ok (.getfield 24, 3) := by decide +kernel
theorem dX7_renewGroup_53 : decode cX7_renewGroup 53 = .ok (.iload_n 3, 1) := by decide +kernel
theorem dX7_renewGroup_54 : decode cX7_renewGroup 54 = .ok (.iconst (-1), 1) := by decide +kernel
theorem dX7_renewGroup_55 : decode cX7_renewGroup 55 = .ok (.iastore, 1) := by decide +kernel
theorem dX7_renewGroup_56 : decode cX7_renewGroup 56 = .ok (.iinc 3 1, 3) := by decide +kernel
theorem dX7_renewGroup_59 : decode cX7_renewGroup 59 = .ok (.goto (-43), 3) := by decide +kernel
theorem dX7_renewGroup_62 : decode cX7_renewGroup 62 = .ok (.return_, 1) := by decide +kernel
theorem dX7_takeRelation_0 : decode cX7_takeRelation 0 = .ok (.iload_n 1, 1) := by decide +kernel
theorem dX7_takeRelation_1 : decode cX7_takeRelation 1 = .ok (.iconst 4, 1) := by decide +kernel
theorem dX7_takeRelation_2 : decode cX7_takeRelation 2 = .ok (.imul, 1) := by decide +kernel
theorem dX7_takeRelation_3 : decode cX7_takeRelation 3 = .ok (.aload_n 0, 1) := by decide +kernel
theorem dX7_takeRelation_4 : decode cX7_takeRelation 4 = .ok (.getfield 15, 3) := by decide +kernel
theorem dX7_takeRelation_7 : decode cX7_takeRelation 7 = .ok (.iload_n 1, 1) := by decide +kernel
theorem dX7_takeRelation_8 : decode cX7_takeRelation 8 = .ok (.iaload, 1) := by decide +kernel
theorem dX7_takeRelation_9 : decode cX7_takeRelation 9 = .ok (.iadd, 1) := by decide +kernel
theorem dX7_takeRelation_10 : decode cX7_takeRelation 10 = .ok (.iconst 3, 1) := by decide +kernel
theorem dX7_takeRelation_11 : decode cX7_takeRelation 11 = .ok (.imul, 1) := by decide +kernel
theorem dX7_takeRelation_12 : decode cX7_takeRelation 12 = .ok (.istore_n 3, 1) := by decide +kernel
theorem dX7_takeRelation_13 : decode cX7_takeRelation 13 = .ok (.iconst 0, 1) := by decide +kernel
theorem dX7_takeRelation_14 : decode cX7_takeRelation 14 = .ok (.istore 4, 2) := by decide +kernel
theorem dX7_takeRelation_16 : decode cX7_takeRelation 16 = .ok (.iload 4, 2) := by decide +kernel
theorem dX7_takeRelation_18 : decode cX7_takeRelation 18 = .ok (.iconst 3, 1) := by decide +kernel
theorem dX7_takeRelation_19 : decode cX7_takeRelation 19 = .ok (.if_icmp .ge 23, 3) := by decide +kernel
theorem dX7_takeRelation_22 : decode cX7_takeRelation 22 = .ok (.aload_n 0, 1) := by decide +kernel
theorem dX7_takeRelation_23 : decode cX7_takeRelation 23 = .ok (.getfield 18, 3) := by decide +kernel
theorem dX7_takeRelation_26 : decode cX7_takeRelation 26 = .ok (.iload_n 3, 1) := by decide +kernel
theorem dX7_takeRelation_27 : decode cX7_takeRelation 27 = .ok (.iload 4, 2) := by decide +kernel
theorem dX7_takeRelation_29 : decode cX7_takeRelation 29 = .ok (.iadd, 1) := by decide +kernel
theorem dX7_takeRelation_30 : decode cX7_takeRelation 30 = .ok (.aload_n 2, 1) := by decide +kernel
theorem dX7_takeRelation_31 : decode cX7_takeRelation 31 = .ok (.iload 4, 2) := by decide +kernel
theorem dX7_takeRelation_33 : decode cX7_takeRelation 33 = .ok (.laload, 1) := by decide +kernel
theorem dX7_takeRelation_34 : decode cX7_takeRelation 34 = .ok (.l2i, 1) := by decide +kernel
theorem dX7_takeRelation_35 : decode cX7_takeRelation 35 = .ok (.iastore, 1) := by decide +kernel
theorem dX7_takeRelation_36 : decode cX7_takeRelation 36 = .ok (.iinc 4 1, 3) := by decide +kernel
theorem dX7_takeRelation_39 : decode cX7_takeRelation 39 = .ok (.goto (-23), 3) := by decide +kernel
theorem dX7_takeRelation_42 : decode cX7_takeRelation 42 = .ok (.aload_n 0, 1) := by decide +kernel
theorem dX7_takeRelation_43 : decode cX7_takeRelation 43 = .ok (.getfield 15, 3) := by decide +kernel
theorem dX7_takeRelation_46 : decode cX7_takeRelation 46 = .ok (.iload_n 1, 1) := by decide +kernel
theorem dX7_takeRelation_47 : decode cX7_takeRelation 47 = .ok (.dup2, 1) := by decide +kernel
theorem dX7_takeRelation_48 : decode cX7_takeRelation 48 = .ok (.iaload, 1) := by decide +kernel
theorem dX7_takeRelation_49 : decode cX7_takeRelation 49 = .ok (.iconst 1, 1) := by decide +kernel
theorem dX7_takeRelation_50 : decode cX7_takeRelation 50 = .ok (.iadd, 1) := by decide +kernel
theorem dX7_takeRelation_51 : decode cX7_takeRelation 51 = .ok (.iastore, 1) := by decide +kernel
theorem dX7_takeRelation_52 : decode cX7_takeRelation 52 = .ok (.return_, 1) := by decide +kernel
theorem dX7_fillNothing_0 : decode cX7_fillNothing 0 = .ok (.aload_n 2, 1) := by decide +kernel
theorem dX7_fillNothing_1 : decode cX7_fillNothing 1 = .ok (.aload_n 0, 1) := by decide +kernel
theorem dX7_fillNothing_2 : decode cX7_fillNothing 2 = .ok (.getfield 9, 3) := by decide +kernel
theorem dX7_fillNothing_5 : decode cX7_fillNothing 5 = .ok (.iload_n 1, 1) := by decide +kernel
theorem dX7_fillNothing_6 : decode cX7_fillNothing 6 = .ok (.iaload, 1) := by decide +kernel
theorem dX7_fillNothing_7 : decode cX7_fillNothing 7 = .ok (.invokevirtual 77, 3) := by decide +kernel
theorem dX7_fillNothing_10 : decode cX7_fillNothing 10 = .ok (.iconst 0, 1) := by decide +kernel
theorem dX7_fillNothing_11 : decode cX7_fillNothing 11 = .ok (.istore_n 3, 1) := by decide +kernel
theorem dX7_fillNothing_12 : decode cX7_fillNothing 12 = .ok (.iload_n 3, 1) := by decide +kernel
theorem dX7_fillNothing_13 : decode cX7_fillNothing 13 = .ok (.aload_n 0, 1) := by decide +kernel
theorem dX7_fillNothing_14 : decode cX7_fillNothing 14 = .ok (.getfield 15, 3) := by decide +kernel
theorem dX7_fillNothing_17 : decode cX7_fillNothing 17 = .ok (.iload_n 1, 1) := by decide +kernel
theorem dX7_fillNothing_18 : decode cX7_fillNothing 18 = .ok (.iaload, 1) := by decide +kernel
theorem dX7_fillNothing_19 : decode cX7_fillNothing 19 = .ok (.if_icmp .ge 51, 3) := by decide +kernel
theorem dX7_fillNothing_22 : decode cX7_fillNothing 22 = .ok (.iconst 0, 1) := by decide +kernel
theorem dX7_fillNothing_23 : decode cX7_fillNothing 23 = .ok (.istore 4, 2) := by decide +kernel
theorem dX7_fillNothing_25 : decode cX7_fillNothing 25 = .ok (.iload 4, 2) := by decide +kernel
theorem dX7_fillNothing_27 : decode cX7_fillNothing 27 = .ok (.iconst 3, 1) := by decide +kernel
theorem dX7_fillNothing_28 : decode cX7_fillNothing 28 = .ok (.if_icmp .ge 32, 3) := by decide +kernel
theorem dX7_fillNothing_31 : decode cX7_fillNothing 31 = .ok (.aload_n 2, 1) := by decide +kernel
theorem dX7_fillNothing_32 : decode cX7_fillNothing 32 = .ok (.getfield 83, 3) := by decide +kernel
theorem dX7_fillNothing_35 : decode cX7_fillNothing 35 = .ok (.iload 4, 2) := by decide +kernel
theorem dX7_fillNothing_37 : decode cX7_fillNothing 37 = .ok (.aload_n 0, 1) := by decide +kernel
theorem dX7_fillNothing_38 : decode cX7_fillNothing 38 = .ok (.getfield 18, 3) := by decide +kernel
theorem dX7_fillNothing_41 : decode cX7_fillNothing 41 = .ok (.iload_n 1, 1) := by decide +kernel
theorem dX7_fillNothing_42 : decode cX7_fillNothing 42 = .ok (.iconst 4, 1) := by decide +kernel
theorem dX7_fillNothing_43 : decode cX7_fillNothing 43 = .ok (.imul, 1) := by decide +kernel
theorem dX7_fillNothing_44 : decode cX7_fillNothing 44 = .ok (.iload_n 3, 1) := by decide +kernel
theorem dX7_fillNothing_45 : decode cX7_fillNothing 45 = .ok (.iadd, 1) := by decide +kernel
theorem dX7_fillNothing_46 : decode cX7_fillNothing 46 = .ok (.iconst 3, 1) := by decide +kernel
theorem dX7_fillNothing_47 : decode cX7_fillNothing 47 = .ok (.imul, 1) := by decide +kernel
theorem dX7_fillNothing_48 : decode cX7_fillNothing 48 = .ok (.iload 4, 2) := by decide +kernel
theorem dX7_fillNothing_50 : decode cX7_fillNothing 50 = .ok (.iadd, 1) := by decide +kernel
theorem dX7_fillNothing_51 : decode cX7_fillNothing 51 = .ok (.iaload, 1) := by decide +kernel
theorem dX7_fillNothing_52 : decode cX7_fillNothing 52 = .ok (.i2l, 1) := by decide +kernel
theorem dX7_fillNothing_53 : decode cX7_fillNothing 53 = .ok (.lastore, 1) := by decide +kernel
theorem dX7_fillNothing_54 : decode cX7_fillNothing 54 = .ok (.iinc 4 1, 3) := by decide +kernel
theorem dX7_fillNothing_57 : decode cX7_fillNothing 57 = .ok (.goto (-32), 3) := by decide +kernel
theorem dX7_fillNothing_60 : decode cX7_fillNothing 60 = .ok (.aload_n 2, 1) := by decide +kernel
theorem dX7_fillNothing_61 : decode cX7_fillNothing 61 = .ok (.invokevirtual 87, 3) := by decide +kernel
theorem dX7_fillNothing_64 : decode cX7_fillNothing 64 = .ok (.iinc 3 1, 3) := by decide +kernel
theorem dX7_fillNothing_67 : decode cX7_fillNothing 67 = .ok (.goto (-55), 3) := by decide +kernel
theorem dX7_fillNothing_70 : decode cX7_fillNothing 70 = .ok (.return_, 1) := by decide +kernel
theorem dX7_hasMap_0 : decode cX7_hasMap 0 = .ok (.iload_n 1, 1) := by decide +kernel
theorem dX7_hasMap_1 : decode cX7_hasMap 1 = .ok (.ifCond .lt 23, 3) := by decide +kernel
theorem dX7_hasMap_4 : decode cX7_hasMap 4 = .ok (.iload_n 1, 1) := by decide +kernel
theorem dX7_hasMap_5 : decode cX7_hasMap 5 = .ok (.bipush 8, 2) := by decide +kernel
theorem dX7_hasMap_7 : decode cX7_hasMap 7 = .ok (.if_icmp .ge 17, 3) := by decide +kernel
theorem dX7_hasMap_10 : decode cX7_hasMap 10 = .ok (.aload_n 0, 1) := by decide +kernel
theorem dX7_hasMap_11 : decode cX7_hasMap 11 = .ok (.getfield 21, 3) := by decide +kernel
theorem dX7_hasMap_14 : decode cX7_hasMap 14 = .ok (.iload_n 1, 1) := by decide +kernel
theorem dX7_hasMap_15 : decode cX7_hasMap 15 = .ok (.iaload, 1) := by decide +kernel
theorem dX7_hasMap_16 : decode cX7_hasMap 16 = .ok (.iconst (-1), 1) := by decide +kernel
theorem dX7_hasMap_17 : decode cX7_hasMap 17 = .ok (.if_icmp .eq 7, 3) := by decide +kernel
theorem dX7_hasMap_20 : decode cX7_hasMap 20 = .ok (.iconst 1, 1) := by decide +kernel
theorem dX7_hasMap_21 : decode cX7_hasMap 21 = .ok (.goto 4, 3) := by decide +kernel
theorem dX7_hasMap_24 : decode cX7_hasMap 24 = .ok (.iconst 0, 1) := by decide +kernel
theorem dX7_hasMap_25 : decode cX7_hasMap 25 = .ok (.ireturn, 1) := by decide +kernel
theorem dX7_countMaps_0 : decode cX7_countMaps 0 = .ok (.iconst 0, 1) := by decide +kernel
theorem dX7_countMaps_1 : decode cX7_countMaps 1 = .ok (.istore_n 1, 1) := by decide +kernel
theorem dX7_countMaps_2 : decode cX7_countMaps 2 = .ok (.iconst 0, 1) := by decide +kernel
theorem dX7_countMaps_3 : decode cX7_countMaps 3 = .ok (.istore_n 2, 1) := by decide +kernel
theorem dX7_countMaps_4 : decode cX7_countMaps 4 = .ok (.iload_n 2, 1) := by decide +kernel
theorem dX7_countMaps_5 : decode cX7_countMaps 5 = .ok (.bipush 8, 2) := by decide +kernel
theorem dX7_countMaps_7 : decode cX7_countMaps 7 = .ok (.if_icmp .ge 25, 3) := by decide +kernel
theorem dX7_countMaps_10 : decode cX7_countMaps 10 = .ok (.iload_n 1, 1) := by decide +kernel
theorem dX7_countMaps_11 : decode cX7_countMaps 11 = .ok (.aload_n 0, 1) := by decide +kernel
theorem dX7_countMaps_12 : decode cX7_countMaps 12 = .ok (.iload_n 2, 1) := by decide +kernel
theorem dX7_countMaps_13 : decode cX7_countMaps 13 = .ok (.invokevirtual 90, 3) := by decide +kernel
theorem dX7_countMaps_16 : decode cX7_countMaps 16 = .ok (.ifCond .eq 7, 3) := by decide +kernel
theorem dX7_countMaps_19 : decode cX7_countMaps 19 = .ok (.iconst 1, 1) := by decide +kernel
theorem dX7_countMaps_20 : decode cX7_countMaps 20 = .ok (.goto 4, 3) := by decide +kernel
theorem dX7_countMaps_23 : decode cX7_countMaps 23 = .ok (.iconst 0, 1) := by decide +kernel
theorem dX7_countMaps_24 : decode cX7_countMaps 24 = .ok (.iadd, 1) := by decide +kernel
theorem dX7_countMaps_25 : decode cX7_countMaps 25 = .ok (.istore_n 1, 1) := by decide +kernel
theorem dX7_countMaps_26 : decode cX7_countMaps 26 = .ok (.iinc 2 1, 3) := by decide +kernel
theorem dX7_countMaps_29 : decode cX7_countMaps 29 = .ok (.goto (-25), 3) := by decide +kernel
theorem dX7_countMaps_32 : decode cX7_countMaps 32 = .ok (.iload_n 1, 1) := by decide +kernel
theorem dX7_countMaps_33 : decode cX7_countMaps 33 = .ok (.ireturn, 1) := by decide +kernel
theorem dX7_renewMap_0 : decode cX7_renewMap 0 = .ok (.aload_n 0, 1) := by decide +kernel
theorem dX7_renewMap_1 : decode cX7_renewMap 1 = .ok (.getfield 21, 3) := by decide +kernel
theorem dX7_renewMap_4 : decode cX7_renewMap 4 = .ok (.iload_n 1, 1) := by decide +kernel
theorem dX7_renewMap_5 : decode cX7_renewMap 5 = .ok (.iload_n 2, 1) := by decide +kernel
theorem dX7_renewMap_6 : decode cX7_renewMap 6 = .ok (.iastore, 1) := by decide +kernel
theorem dX7_renewMap_7 : decode cX7_renewMap 7 = .ok (.aload_n 0, 1) := by decide +kernel
theorem dX7_renewMap_8 : decode cX7_renewMap 8 = .ok (.getfield 24, 3) := by decide +kernel
theorem dX7_renewMap_11 : decode cX7_renewMap 11 = .ok (.iload_n 1, 1) := by decide +kernel
theorem dX7_renewMap_12 : decode cX7_renewMap 12 = .ok (.iload_n 3, 1) := by decide +kernel
theorem dX7_renewMap_13 : decode cX7_renewMap 13 = .ok (.iastore, 1) := by decide +kernel
theorem dX7_renewMap_14 : decode cX7_renewMap 14 = .ok (.aload_n 0, 1) := by decide +kernel
theorem dX7_renewMap_15 : decode cX7_renewMap 15 = .ok (.getfield 27, 3) := by decide +kernel
theorem dX7_renewMap_18 : decode cX7_renewMap 18 = .ok (.bipush 9, 2) := by decide +kernel
theorem dX7_renewMap_20 : decode cX7_renewMap 20 = .ok (.iload_n 1, 1) := by decide +kernel
theorem dX7_renewMap_21 : decode cX7_renewMap 21 = .ok (.imul, 1) := by decide +kernel
theorem dX7_renewMap_22 : decode cX7_renewMap 22 = .ok (.bipush 9, 2) := by decide +kernel
theorem dX7_renewMap_24 : decode cX7_renewMap 24 = .ok (.iload_n 1, 1) := by decide +kernel
theorem dX7_renewMap_25 : decode cX7_renewMap 25 = .ok (.imul, 1) := by decide +kernel
theorem dX7_renewMap_26 : decode cX7_renewMap 26 = .ok (.bipush 9, 2) := by decide +kernel
theorem dX7_renewMap_28 : decode cX7_renewMap 28 = .ok (.iadd, 1) := by decide +kernel
theorem dX7_renewMap_29 : decode cX7_renewMap 29 = .ok (.iconst 0, 1) := by decide +kernel
theorem dX7_renewMap_30 : decode cX7_renewMap 30 = .ok (.invokestatic 94, 3) := by decide +kernel
theorem dX7_renewMap_33 : decode cX7_renewMap 33 = .ok (.return_, 1) := by decide +kernel
theorem dX7_takeMap_0 : decode cX7_takeMap 0 = .ok (.aload_n 0, 1) := by decide +kernel
theorem dX7_takeMap_1 : decode cX7_takeMap 1 = .ok (.getfield 21, 3) := by decide +kernel
theorem dX7_takeMap_4 : decode cX7_takeMap 4 = .ok (.iload_n 1, 1) := by decide +kernel
theorem dX7_takeMap_5 : decode cX7_takeMap 5 = .ok (.aload_n 2, 1) := by decide +kernel
theorem dX7_takeMap_6 : decode cX7_takeMap 6 = .ok (.getfield 97, 3) := by decide +kernel
theorem dX7_takeMap_9 : decode cX7_takeMap 9 = .ok (.iastore, 1) := by decide +kernel
theorem dX7_takeMap_10 : decode cX7_takeMap 10 = .ok (.aload_n 0, 1) := by decide +kernel
theorem dX7_takeMap_11 : decode cX7_takeMap 11 = .ok (.getfield 24, 3) := by decide +kernel
theorem dX7_takeMap_14 : decode cX7_takeMap 14 = .ok (.iload_n 1, 1) := by decide +kernel
theorem dX7_takeMap_15 : decode cX7_takeMap 15 = .ok (.aload_n 2, 1) := by decide +kernel
theorem dX7_takeMap_16 : decode cX7_takeMap 16 = .ok (.getfield 101, 3) := by decide +kernel
theorem dX7_takeMap_19 : decode cX7_takeMap 19 = .ok (.iastore, 1) := by decide +kernel
theorem dX7_takeMap_20 : decode cX7_takeMap 20 = .ok (.iconst 0, 1) := by decide +kernel
theorem dX7_takeMap_21 : decode cX7_takeMap 21 = .ok (.istore_n 3, 1) := by decide +kernel
theorem dX7_takeMap_22 : decode cX7_takeMap 22 = .ok (.iload_n 3, 1) := by decide +kernel
theorem dX7_takeMap_23 : decode cX7_takeMap 23 = .ok (.bipush 9, 2) := by decide +kernel
theorem dX7_takeMap_25 : decode cX7_takeMap 25 = .ok (.if_icmp .ge 27, 3) := by decide +kernel
theorem dX7_takeMap_28 : decode cX7_takeMap 28 = .ok (.aload_n 0, 1) := by decide +kernel
theorem dX7_takeMap_29 : decode cX7_takeMap 29 = .ok (.getfield 27, 3) := by decide +kernel
theorem dX7_takeMap_32 : decode cX7_takeMap 32 = .ok (.bipush 9, 2) := by decide +kernel
theorem dX7_takeMap_34 : decode cX7_takeMap 34 = .ok (.iload_n 1, 1) := by decide +kernel
theorem dX7_takeMap_35 : decode cX7_takeMap 35 = .ok (.imul, 1) := by decide +kernel
theorem dX7_takeMap_36 : decode cX7_takeMap 36 = .ok (.iload_n 3, 1) := by decide +kernel
theorem dX7_takeMap_37 : decode cX7_takeMap 37 = .ok (.iadd, 1) := by decide +kernel
theorem dX7_takeMap_38 : decode cX7_takeMap 38 = .ok (.aload_n 2, 1) := by decide +kernel
theorem dX7_takeMap_39 : decode cX7_takeMap 39 = .ok (.getfield 103, 3) := by decide +kernel
theorem dX7_takeMap_42 : decode cX7_takeMap 42 = .ok (.iload_n 3, 1) := by decide +kernel
theorem dX7_takeMap_43 : decode cX7_takeMap 43 = .ok (.laload, 1) := by decide +kernel
theorem dX7_takeMap_44 : decode cX7_takeMap 44 = .ok (.l2i, 1) := by decide +kernel
theorem dX7_takeMap_45 : decode cX7_takeMap 45 = .ok (.iastore, 1) := by decide +kernel
theorem dX7_takeMap_46 : decode cX7_takeMap 46 = .ok (.iinc 3 1, 3) := by decide +kernel
theorem dX7_takeMap_49 : decode cX7_takeMap 49 = .ok (.goto (-27), 3) := by decide +kernel
theorem dX7_takeMap_52 : decode cX7_takeMap 52 = .ok (.return_, 1) := by decide +kernel
theorem dX7_mapRow_0 : decode cX7_mapRow 0 = .ok (.aload_n 0, 1) := by decide +kernel
theorem dX7_mapRow_1 : decode cX7_mapRow 1 = .ok (.getfield 27, 3) := by decide +kernel
theorem dX7_mapRow_4 : decode cX7_mapRow 4 = .ok (.bipush 9, 2) := by decide +kernel
theorem dX7_mapRow_6 : decode cX7_mapRow 6 = .ok (.iload_n 1, 1) := by decide +kernel
theorem dX7_mapRow_7 : decode cX7_mapRow 7 = .ok (.imul, 1) := by decide +kernel
theorem dX7_mapRow_8 : decode cX7_mapRow 8 = .ok (.aload_n 2, 1) := by decide +kernel
theorem dX7_mapRow_9 : decode cX7_mapRow 9 = .ok (.aload_n 3, 1) := by decide +kernel
theorem dX7_mapRow_10 : decode cX7_mapRow 10 = .ok (.invokestatic 106, 3) := by decide +kernel
theorem dX7_mapRow_13 : decode cX7_mapRow 13 = .ok (.return_, 1) := by decide +kernel
theorem dX7_respectsRelations_0 : decode cX7_respectsRelations 0 = .ok (.aload_n 0, 1) := by decide +kernel
theorem dX7_respectsRelations_1 : decode cX7_respectsRelations 1 = .ok (.getfield 21, 3) := by decide +kernel
theorem dX7_respectsRelations_4 : decode cX7_respectsRelations 4 = .ok (.iload_n 1, 1) := by decide +kernel
theorem dX7_respectsRelations_5 : decode cX7_respectsRelations 5 = .ok (.iaload, 1) := by decide +kernel
theorem dX7_respectsRelations_6 : decode cX7_respectsRelations 6 = .ok (.istore 5, 2) := by decide +kernel
theorem dX7_respectsRelations_8 : decode cX7_respectsRelations 8 = .ok (.iconst 0, 1) := by decide +kernel
theorem dX7_respectsRelations_9 : decode cX7_respectsRelations 9 = .ok (.istore 6, 2) := by decide +kernel
theorem dX7_respectsRelations_11 : decode cX7_respectsRelations 11 = .ok (.iload 6, 2) := by decide +kernel
theorem dX7_respectsRelations_13 : decode cX7_respectsRelations 13 = .ok (.aload_n 0, 1) := by decide +kernel
theorem dX7_respectsRelations_14 : decode cX7_respectsRelations 14 = .ok (.getfield 15, 3) := by decide +kernel
theorem dX7_respectsRelations_17 : decode cX7_respectsRelations 17 = .ok (.iload 5, 2) := by decide +kernel
theorem dX7_respectsRelations_19 : decode cX7_respectsRelations 19 = .ok (.iaload, 1) := by decide +kernel
theorem dX7_respectsRelations_20 : decode cX7_respectsRelations 20 = .ok (.if_icmp .ge 65, 3) := by decide +kernel
theorem dX7_respectsRelations_23 : decode cX7_respectsRelations 23 = .ok (.iconst 0, 1) := by decide +kernel
theorem dX7_respectsRelations_24 : decode cX7_respectsRelations 24 = .ok (.istore 7, 2) := by decide +kernel
theorem dX7_respectsRelations_26 : decode cX7_respectsRelations 26 = .ok (.iload 7, 2) := by decide +kernel
theorem dX7_respectsRelations_28 : decode cX7_respectsRelations 28 = .ok (.iconst 3, 1) := by decide +kernel
theorem dX7_respectsRelations_29 : decode cX7_respectsRelations 29 = .ok (.if_icmp .ge 31, 3) := by decide +kernel
theorem dX7_respectsRelations_32 : decode cX7_respectsRelations 32 = .ok (.aload_n 3, 1) := by decide +kernel
theorem dX7_respectsRelations_33 : decode cX7_respectsRelations 33 = .ok (.iload 7, 2) := by decide +kernel
theorem dX7_respectsRelations_35 : decode cX7_respectsRelations 35 = .ok (.aload_n 0, 1) := by decide +kernel
theorem dX7_respectsRelations_36 : decode cX7_respectsRelations 36 = .ok (.getfield 18, 3) := by decide +kernel
theorem dX7_respectsRelations_39 : decode cX7_respectsRelations 39 = .ok (.iload 5, 2) := by decide +kernel
theorem dX7_respectsRelations_41 : decode cX7_respectsRelations 41 = .ok (.iconst 4, 1) := by decide +kernel
theorem dX7_respectsRelations_42 : decode cX7_respectsRelations 42 = .ok (.imul, 1) := by decide +kernel
theorem dX7_respectsRelations_43 : decode cX7_respectsRelations 43 = .ok (.iload 6, 2) := by decide +kernel
theorem dX7_respectsRelations_45 : decode cX7_respectsRelations 45 = .ok (.iadd, 1) := by decide +kernel
theorem dX7_respectsRelations_46 : decode cX7_respectsRelations 46 = .ok (.iconst 3, 1) := by decide +kernel
theorem dX7_respectsRelations_47 : decode cX7_respectsRelations 47 = .ok (.imul, 1) := by decide +kernel
theorem dX7_respectsRelations_48 : decode cX7_respectsRelations 48 = .ok (.iload 7, 2) := by decide +kernel
theorem dX7_respectsRelations_50 : decode cX7_respectsRelations 50 = .ok (.iadd, 1) := by decide +kernel
theorem dX7_respectsRelations_51 : decode cX7_respectsRelations 51 = .ok (.iaload, 1) := by decide +kernel
theorem dX7_respectsRelations_52 : decode cX7_respectsRelations 52 = .ok (.i2l, 1) := by decide +kernel
theorem dX7_respectsRelations_53 : decode cX7_respectsRelations 53 = .ok (.lastore, 1) := by decide +kernel
theorem dX7_respectsRelations_54 : decode cX7_respectsRelations 54 = .ok (.iinc 7 1, 3) := by decide +kernel
theorem dX7_respectsRelations_57 : decode cX7_respectsRelations 57 = .ok (.goto (-31), 3) := by decide +kernel
theorem dX7_respectsRelations_60 : decode cX7_respectsRelations 60 = .ok (.aload_n 0, 1) := by decide +kernel
theorem dX7_respectsRelations_61 : decode cX7_respectsRelations 61 = .ok (.iload_n 1, 1) := by decide +kernel
theorem dX7_respectsRelations_62 : decode cX7_respectsRelations 62 = .ok (.aload_n 3, 1) := by decide +kernel
theorem dX7_respectsRelations_63 : decode cX7_respectsRelations 63 = .ok (.aload 4, 2) := by decide +kernel
theorem dX7_respectsRelations_65 : decode cX7_respectsRelations 65 = .ok (.invokevirtual 110, 3) := by decide +kernel
theorem dX7_respectsRelations_68 : decode cX7_respectsRelations 68 = .ok (.aload_n 2, 1) := by decide +kernel
theorem dX7_respectsRelations_69 : decode cX7_respectsRelations 69 = .ok (.aload 4, 2) := by decide +kernel
theorem dX7_respectsRelations_71 : decode cX7_respectsRelations 71 = .ok (.invokevirtual 114, 3) := by decide +kernel
theorem dX7_respectsRelations_74 : decode cX7_respectsRelations 74 = .ok (.ifCond .ne 5, 3) := by decide +kernel
theorem dX7_respectsRelations_77 : decode cX7_respectsRelations 77 = .ok (.iconst 0, 1) := by decide +kernel
theorem dX7_respectsRelations_78 : decode cX7_respectsRelations 78 = .ok (.ireturn, 1) := by decide +kernel
theorem dX7_respectsRelations_79 : decode cX7_respectsRelations 79 = .ok (.iinc 6 1, 3) := by decide +kernel
theorem dX7_respectsRelations_82 : decode cX7_respectsRelations 82 = .ok (.goto (-71), 3) := by decide +kernel
theorem dX7_respectsRelations_85 : decode cX7_respectsRelations 85 = .ok (.iconst 1, 1) := by decide +kernel
theorem dX7_respectsRelations_86 : decode cX7_respectsRelations 86 = .ok (.ireturn, 1) := by decide +kernel
theorem dX7_takeMove_0 : decode cX7_takeMove 0 = .ok (.aload_n 0, 1) := by decide +kernel
theorem dX7_takeMove_1 : decode cX7_takeMove 1 = .ok (.getfield 34, 3) := by decide +kernel
theorem dX7_takeMove_4 : decode cX7_takeMove 4 = .ok (.aload_n 0, 1) := by decide +kernel
theorem dX7_takeMove_5 : decode cX7_takeMove 5 = .ok (.getfield 30, 3) := by decide +kernel
theorem dX7_takeMove_8 : decode cX7_takeMove 8 = .ok (.iload_n 1, 1) := by decide +kernel
theorem dX7_takeMove_9 : decode cX7_takeMove 9 = .ok (.iastore, 1) := by decide +kernel
theorem dX7_takeMove_10 : decode cX7_takeMove 10 = .ok (.aload_n 0, 1) := by decide +kernel
theorem dX7_takeMove_11 : decode cX7_takeMove 11 = .ok (.getfield 37, 3) := by decide +kernel
theorem dX7_takeMove_14 : decode cX7_takeMove 14 = .ok (.aload_n 0, 1) := by decide +kernel
theorem dX7_takeMove_15 : decode cX7_takeMove 15 = .ok (.getfield 30, 3) := by decide +kernel
theorem dX7_takeMove_18 : decode cX7_takeMove 18 = .ok (.iload_n 2, 1) := by decide +kernel
theorem dX7_takeMove_19 : decode cX7_takeMove 19 = .ok (.iastore, 1) := by decide +kernel
theorem dX7_takeMove_20 : decode cX7_takeMove 20 = .ok (.iload_n 1, 1) := by decide +kernel
theorem dX7_takeMove_21 : decode cX7_takeMove 21 = .ok (.iconst 2, 1) := by decide +kernel
theorem dX7_takeMove_22 : decode cX7_takeMove 22 = .ok (.if_icmp .ne 97, 3) := by decide +kernel
theorem dX7_takeMove_25 : decode cX7_takeMove 25 = .ok (.aload_n 0, 1) := by decide +kernel
theorem dX7_takeMove_26 : decode cX7_takeMove 26 = .ok (.getfield 40, 3) := by decide +kernel
theorem dX7_takeMove_29 : decode cX7_takeMove 29 = .ok (.aload_n 0, 1) := by decide +kernel
theorem dX7_takeMove_30 : decode cX7_takeMove 30 = .ok (.getfield 30, 3) := by decide +kernel
theorem dX7_takeMove_33 : decode cX7_takeMove 33 = .ok (.aload_n 0, 1) := by decide +kernel
theorem dX7_takeMove_34 : decode cX7_takeMove 34 = .ok (.getfield 21, 3) := by decide +kernel
theorem dX7_takeMove_37 : decode cX7_takeMove 37 = .ok (.iload_n 2, 1) := by decide +kernel
theorem dX7_takeMove_38 : decode cX7_takeMove 38 = .ok (.iaload, 1) := by decide +kernel
theorem dX7_takeMove_39 : decode cX7_takeMove 39 = .ok (.iastore, 1) := by decide +kernel
theorem dX7_takeMove_40 : decode cX7_takeMove 40 = .ok (.aload_n 0, 1) := by decide +kernel
theorem dX7_takeMove_41 : decode cX7_takeMove 41 = .ok (.getfield 43, 3) := by decide +kernel
theorem dX7_takeMove_44 : decode cX7_takeMove 44 = .ok (.aload_n 0, 1) := by decide +kernel
theorem dX7_takeMove_45 : decode cX7_takeMove 45 = .ok (.getfield 30, 3) := by decide +kernel
theorem dX7_takeMove_48 : decode cX7_takeMove 48 = .ok (.aload_n 0, 1) := by decide +kernel
theorem dX7_takeMove_49 : decode cX7_takeMove 49 = .ok (.getfield 24, 3) := by decide +kernel
theorem dX7_takeMove_52 : decode cX7_takeMove 52 = .ok (.iload_n 2, 1) := by decide +kernel
theorem dX7_takeMove_53 : decode cX7_takeMove 53 = .ok (.iaload, 1) := by decide +kernel
theorem dX7_takeMove_54 : decode cX7_takeMove 54 = .ok (.iastore, 1) := by decide +kernel
theorem dX7_takeMove_55 : decode cX7_takeMove 55 = .ok (.aload_n 0, 1) := by decide +kernel
theorem dX7_takeMove_56 : decode cX7_takeMove 56 = .ok (.getfield 46, 3) := by decide +kernel
theorem dX7_takeMove_59 : decode cX7_takeMove 59 = .ok (.aload_n 0, 1) := by decide +kernel
theorem dX7_takeMove_60 : decode cX7_takeMove 60 = .ok (.getfield 30, 3) := by decide +kernel
theorem dX7_takeMove_63 : decode cX7_takeMove 63 = .ok (.aload_n 0, 1) := by decide +kernel
theorem dX7_takeMove_64 : decode cX7_takeMove 64 = .ok (.getfield 9, 3) := by decide +kernel
theorem dX7_takeMove_67 : decode cX7_takeMove 67 = .ok (.aload_n 0, 1) := by decide +kernel
theorem dX7_takeMove_68 : decode cX7_takeMove 68 = .ok (.getfield 21, 3) := by decide +kernel
theorem dX7_takeMove_71 : decode cX7_takeMove 71 = .ok (.iload_n 2, 1) := by decide +kernel
theorem dX7_takeMove_72 : decode cX7_takeMove 72 = .ok (.iaload, 1) := by decide +kernel
theorem dX7_takeMove_73 : decode cX7_takeMove 73 = .ok (.iaload, 1) := by decide +kernel
theorem dX7_takeMove_74 : decode cX7_takeMove 74 = .ok (.iastore, 1) := by decide +kernel
theorem dX7_takeMove_75 : decode cX7_takeMove 75 = .ok (.aload_n 0, 1) := by decide +kernel
theorem dX7_takeMove_76 : decode cX7_takeMove 76 = .ok (.getfield 49, 3) := by decide +kernel
theorem dX7_takeMove_79 : decode cX7_takeMove 79 = .ok (.aload_n 0, 1) := by decide +kernel
theorem dX7_takeMove_80 : decode cX7_takeMove 80 = .ok (.getfield 30, 3) := by decide +kernel
theorem dX7_takeMove_83 : decode cX7_takeMove 83 = .ok (.aload_n 0, 1) := by decide +kernel
theorem dX7_takeMove_84 : decode cX7_takeMove 84 = .ok (.getfield 9, 3) := by decide +kernel
theorem dX7_takeMove_87 : decode cX7_takeMove 87 = .ok (.aload_n 0, 1) := by decide +kernel
theorem dX7_takeMove_88 : decode cX7_takeMove 88 = .ok (.getfield 24, 3) := by decide +kernel
theorem dX7_takeMove_91 : decode cX7_takeMove 91 = .ok (.iload_n 2, 1) := by decide +kernel
theorem dX7_takeMove_92 : decode cX7_takeMove 92 = .ok (.iaload, 1) := by decide +kernel
theorem dX7_takeMove_93 : decode cX7_takeMove 93 = .ok (.iaload, 1) := by decide +kernel
theorem dX7_takeMove_94 : decode cX7_takeMove 94 = .ok (.iastore, 1) := by decide +kernel
theorem dX7_takeMove_95 : decode cX7_takeMove 95 = .ok (.aload_n 0, 1) := by decide +kernel
theorem dX7_takeMove_96 : decode cX7_takeMove 96 = .ok (.getfield 27, 3) := by decide +kernel
theorem dX7_takeMove_99 : decode cX7_takeMove 99 = .ok (.bipush 9, 2) := by decide +kernel
theorem dX7_takeMove_101 : decode cX7_takeMove 101 = .ok (.iload_n 2, 1) := by decide +kernel
theorem dX7_takeMove_102 : decode cX7_takeMove 102 = .ok (.imul, 1) := by decide +kernel
theorem dX7_takeMove_103 : decode cX7_takeMove 103 = .ok (.aload_n 0, 1) := by decide +kernel
theorem dX7_takeMove_104 : decode cX7_takeMove 104 = .ok (.getfield 52, 3) := by decide +kernel
theorem dX7_takeMove_107 : decode cX7_takeMove 107 = .ok (.bipush 9, 2) := by decide +kernel
theorem dX7_takeMove_109 : decode cX7_takeMove 109 = .ok (.aload_n 0, 1) := by decide +kernel
theorem dX7_takeMove_110 : decode cX7_takeMove 110 = .ok (.getfield 30, 3) := by decide +kernel
theorem dX7_takeMove_113 : decode cX7_takeMove 113 = .ok (.imul, 1) := by decide +kernel
theorem dX7_takeMove_114 : decode cX7_takeMove 114 = .ok (.bipush 9, 2) := by decide +kernel
theorem dX7_takeMove_116 : decode cX7_takeMove 116 = .ok (.invokestatic 71, 3) := by decide +kernel
theorem dX7_takeMove_119 : decode cX7_takeMove 119 = .ok (.aload_n 0, 1) := by decide +kernel
theorem dX7_takeMove_120 : decode cX7_takeMove 120 = .ok (.dup, 1) := by decide +kernel
theorem dX7_takeMove_121 : decode cX7_takeMove 121 = .ok (.getfield 30, 3) := by decide +kernel
theorem dX7_takeMove_124 : decode cX7_takeMove 124 = .ok (.iconst 1, 1) := by decide +kernel
theorem dX7_takeMove_125 : decode cX7_takeMove 125 = .ok (.iadd, 1) := by decide +kernel
theorem dX7_takeMove_126 : decode cX7_takeMove 126 = .ok (.putfield 30, 3) := by decide +kernel
theorem dX7_takeMove_129 : decode cX7_takeMove 129 = .ok (.return_, 1) := by decide +kernel
theorem dX7_dropMoves_0 : decode cX7_dropMoves 0 = .ok (.iconst 0, 1) := by decide +kernel
theorem dX7_dropMoves_1 : decode cX7_dropMoves 1 = .ok (.istore_n 2, 1) := by decide +kernel
theorem dX7_dropMoves_2 : decode cX7_dropMoves 2 = .ok (.iconst 0, 1) := by decide +kernel
theorem dX7_dropMoves_3 : decode cX7_dropMoves 3 = .ok (.istore_n 3, 1) := by decide +kernel
theorem dX7_dropMoves_4 : decode cX7_dropMoves 4 = .ok (.iload_n 3, 1) := by decide +kernel
theorem dX7_dropMoves_5 : decode cX7_dropMoves 5 = .ok (.aload_n 0, 1) := by decide +kernel
theorem dX7_dropMoves_6 : decode cX7_dropMoves 6 = .ok (.getfield 30, 3) := by decide +kernel
theorem dX7_dropMoves_9 : decode cX7_dropMoves 9 = .ok (.if_icmp .ge 28, 3) := by decide +kernel
theorem dX7_dropMoves_12 : decode cX7_dropMoves 12 = .ok (.aload_n 0, 1) := by decide +kernel
theorem dX7_dropMoves_13 : decode cX7_dropMoves 13 = .ok (.getfield 34, 3) := by decide +kernel
theorem dX7_dropMoves_16 : decode cX7_dropMoves 16 = .ok (.iload_n 3, 1) := by decide +kernel
theorem dX7_dropMoves_17 : decode cX7_dropMoves 17 = .ok (.iaload, 1) := by decide +kernel
theorem dX7_dropMoves_18 : decode cX7_dropMoves 18 = .ok (.iload_n 1, 1) := by decide +kernel
theorem dX7_dropMoves_19 : decode cX7_dropMoves 19 = .ok (.if_icmp .eq 12, 3) := by decide +kernel
theorem dX7_dropMoves_22 : decode cX7_dropMoves 22 = .ok (.aload_n 0, 1) := by decide +kernel
theorem dX7_dropMoves_23 : decode cX7_dropMoves 23 = .ok (.iload_n 3, 1) := by decide +kernel
theorem dX7_dropMoves_24 : decode cX7_dropMoves 24 = .ok (.iload_n 2, 1) := by decide +kernel
theorem dX7_dropMoves_25 : decode cX7_dropMoves 25 = .ok (.invokevirtual 118, 3) := by decide +kernel
theorem dX7_dropMoves_28 : decode cX7_dropMoves 28 = .ok (.iinc 2 1, 3) := by decide +kernel
theorem dX7_dropMoves_31 : decode cX7_dropMoves 31 = .ok (.iinc 3 1, 3) := by decide +kernel
theorem dX7_dropMoves_34 : decode cX7_dropMoves 34 = .ok (.goto (-30), 3) := by decide +kernel
theorem dX7_dropMoves_37 : decode cX7_dropMoves 37 = .ok (.aload_n 0, 1) := by decide +kernel
theorem dX7_dropMoves_38 : decode cX7_dropMoves 38 = .ok (.iload_n 2, 1) := by decide +kernel
theorem dX7_dropMoves_39 : decode cX7_dropMoves 39 = .ok (.putfield 30, 3) := by decide +kernel
theorem dX7_dropMoves_42 : decode cX7_dropMoves 42 = .ok (.return_, 1) := by decide +kernel
theorem dX7_shiftMove_0 : decode cX7_shiftMove 0 = .ok (.aload_n 0, 1) := by decide +kernel
theorem dX7_shiftMove_1 : decode cX7_shiftMove 1 = .ok (.getfield 34, 3) := by decide +kernel
theorem dX7_shiftMove_4 : decode cX7_shiftMove 4 = .ok (.iload_n 2, 1) := by decide +kernel
theorem dX7_shiftMove_5 : decode cX7_shiftMove 5 = .ok (.aload_n 0, 1) := by decide +kernel
theorem dX7_shiftMove_6 : decode cX7_shiftMove 6 = .ok (.getfield 34, 3) := by decide +kernel
theorem dX7_shiftMove_9 : decode cX7_shiftMove 9 = .ok (.iload_n 1, 1) := by decide +kernel
theorem dX7_shiftMove_10 : decode cX7_shiftMove 10 = .ok (.iaload, 1) := by decide +kernel
theorem dX7_shiftMove_11 : decode cX7_shiftMove 11 = .ok (.iastore, 1) := by decide +kernel
theorem dX7_shiftMove_12 : decode cX7_shiftMove 12 = .ok (.aload_n 0, 1) := by decide +kernel
theorem dX7_shiftMove_13 : decode cX7_shiftMove 13 = .ok (.getfield 37, 3) := by decide +kernel
theorem dX7_shiftMove_16 : decode cX7_shiftMove 16 = .ok (.iload_n 2, 1) := by decide +kernel
theorem dX7_shiftMove_17 : decode cX7_shiftMove 17 = .ok (.aload_n 0, 1) := by decide +kernel
theorem dX7_shiftMove_18 : decode cX7_shiftMove 18 = .ok (.getfield 37, 3) := by decide +kernel
theorem dX7_shiftMove_21 : decode cX7_shiftMove 21 = .ok (.iload_n 1, 1) := by decide +kernel
theorem dX7_shiftMove_22 : decode cX7_shiftMove 22 = .ok (.iaload, 1) := by decide +kernel
theorem dX7_shiftMove_23 : decode cX7_shiftMove 23 = .ok (.iastore, 1) := by decide +kernel
theorem dX7_shiftMove_24 : decode cX7_shiftMove 24 = .ok (.aload_n 0, 1) := by decide +kernel
theorem dX7_shiftMove_25 : decode cX7_shiftMove 25 = .ok (.getfield 40, 3) := by decide +kernel
theorem dX7_shiftMove_28 : decode cX7_shiftMove 28 = .ok (.iload_n 2, 1) := by decide +kernel
theorem dX7_shiftMove_29 : decode cX7_shiftMove 29 = .ok (.aload_n 0, 1) := by decide +kernel
theorem dX7_shiftMove_30 : decode cX7_shiftMove 30 = .ok (.getfield 40, 3) := by decide +kernel
theorem dX7_shiftMove_33 : decode cX7_shiftMove 33 = .ok (.iload_n 1, 1) := by decide +kernel
theorem dX7_shiftMove_34 : decode cX7_shiftMove 34 = .ok (.iaload, 1) := by decide +kernel
theorem dX7_shiftMove_35 : decode cX7_shiftMove 35 = .ok (.iastore, 1) := by decide +kernel
theorem dX7_shiftMove_36 : decode cX7_shiftMove 36 = .ok (.aload_n 0, 1) := by decide +kernel
theorem dX7_shiftMove_37 : decode cX7_shiftMove 37 = .ok (.getfield 43, 3) := by decide +kernel
theorem dX7_shiftMove_40 : decode cX7_shiftMove 40 = .ok (.iload_n 2, 1) := by decide +kernel
theorem dX7_shiftMove_41 : decode cX7_shiftMove 41 = .ok (.aload_n 0, 1) := by decide +kernel
theorem dX7_shiftMove_42 : decode cX7_shiftMove 42 = .ok (.getfield 43, 3) := by decide +kernel
theorem dX7_shiftMove_45 : decode cX7_shiftMove 45 = .ok (.iload_n 1, 1) := by decide +kernel
theorem dX7_shiftMove_46 : decode cX7_shiftMove 46 = .ok (.iaload, 1) := by decide +kernel
theorem dX7_shiftMove_47 : decode cX7_shiftMove 47 = .ok (.iastore, 1) := by decide +kernel
theorem dX7_shiftMove_48 : decode cX7_shiftMove 48 = .ok (.aload_n 0, 1) := by decide +kernel
theorem dX7_shiftMove_49 : decode cX7_shiftMove 49 = .ok (.getfield 46, 3) := by decide +kernel
theorem dX7_shiftMove_52 : decode cX7_shiftMove 52 = .ok (.iload_n 2, 1) := by decide +kernel
theorem dX7_shiftMove_53 : decode cX7_shiftMove 53 = .ok (.aload_n 0, 1) := by decide +kernel
theorem dX7_shiftMove_54 : decode cX7_shiftMove 54 = .ok (.getfield 46, 3) := by decide +kernel
theorem dX7_shiftMove_57 : decode cX7_shiftMove 57 = .ok (.iload_n 1, 1) := by decide +kernel
theorem dX7_shiftMove_58 : decode cX7_shiftMove 58 = .ok (.iaload, 1) := by decide +kernel
theorem dX7_shiftMove_59 : decode cX7_shiftMove 59 = .ok (.iastore, 1) := by decide +kernel
theorem dX7_shiftMove_60 : decode cX7_shiftMove 60 = .ok (.aload_n 0, 1) := by decide +kernel
theorem dX7_shiftMove_61 : decode cX7_shiftMove 61 = .ok (.getfield 49, 3) := by decide +kernel
theorem dX7_shiftMove_64 : decode cX7_shiftMove 64 = .ok (.iload_n 2, 1) := by decide +kernel
theorem dX7_shiftMove_65 : decode cX7_shiftMove 65 = .ok (.aload_n 0, 1) := by decide +kernel
theorem dX7_shiftMove_66 : decode cX7_shiftMove 66 = .ok (.getfield 49, 3) := by decide +kernel
theorem dX7_shiftMove_69 : decode cX7_shiftMove 69 = .ok (.iload_n 1, 1) := by decide +kernel
theorem dX7_shiftMove_70 : decode cX7_shiftMove 70 = .ok (.iaload, 1) := by decide +kernel
theorem dX7_shiftMove_71 : decode cX7_shiftMove 71 = .ok (.iastore, 1) := by decide +kernel
theorem dX7_shiftMove_72 : decode cX7_shiftMove 72 = .ok (.aload_n 0, 1) := by decide +kernel
theorem dX7_shiftMove_73 : decode cX7_shiftMove 73 = .ok (.getfield 52, 3) := by decide +kernel
theorem dX7_shiftMove_76 : decode cX7_shiftMove 76 = .ok (.bipush 9, 2) := by decide +kernel
theorem dX7_shiftMove_78 : decode cX7_shiftMove 78 = .ok (.iload_n 1, 1) := by decide +kernel
theorem dX7_shiftMove_79 : decode cX7_shiftMove 79 = .ok (.imul, 1) := by decide +kernel
theorem dX7_shiftMove_80 : decode cX7_shiftMove 80 = .ok (.aload_n 0, 1) := by decide +kernel
theorem dX7_shiftMove_81 : decode cX7_shiftMove 81 = .ok (.getfield 52, 3) := by decide +kernel
theorem dX7_shiftMove_84 : decode cX7_shiftMove 84 = .ok (.bipush 9, 2) := by decide +kernel
theorem dX7_shiftMove_86 : decode cX7_shiftMove 86 = .ok (.iload_n 2, 1) := by decide +kernel
theorem dX7_shiftMove_87 : decode cX7_shiftMove 87 = .ok (.imul, 1) := by decide +kernel
theorem dX7_shiftMove_88 : decode cX7_shiftMove 88 = .ok (.bipush 9, 2) := by decide +kernel
theorem dX7_shiftMove_90 : decode cX7_shiftMove 90 = .ok (.invokestatic 71, 3) := by decide +kernel
theorem dX7_shiftMove_93 : decode cX7_shiftMove 93 = .ok (.return_, 1) := by decide +kernel
theorem dX7_canMove_0 : decode cX7_canMove 0 = .ok (.aload_n 0, 1) := by decide +kernel
theorem dX7_canMove_1 : decode cX7_canMove 1 = .ok (.getfield 40, 3) := by decide +kernel
theorem dX7_canMove_4 : decode cX7_canMove 4 = .ok (.iload_n 1, 1) := by decide +kernel
theorem dX7_canMove_5 : decode cX7_canMove 5 = .ok (.iaload, 1) := by decide +kernel
theorem dX7_canMove_6 : decode cX7_canMove 6 = .ok (.iload_n 2, 1) := by decide +kernel
theorem dX7_canMove_7 : decode cX7_canMove 7 = .ok (.if_icmp .ne 47, 3) := by decide +kernel
theorem dX7_canMove_10 : decode cX7_canMove 10 = .ok (.aload_n 0, 1) := by decide +kernel
theorem dX7_canMove_11 : decode cX7_canMove 11 = .ok (.getfield 46, 3) := by decide +kernel
theorem dX7_canMove_14 : decode cX7_canMove 14 = .ok (.iload_n 1, 1) := by decide +kernel
theorem dX7_canMove_15 : decode cX7_canMove 15 = .ok (.iaload, 1) := by decide +kernel
theorem dX7_canMove_16 : decode cX7_canMove 16 = .ok (.aload_n 0, 1) := by decide +kernel
theorem dX7_canMove_17 : decode cX7_canMove 17 = .ok (.getfield 9, 3) := by decide +kernel
theorem dX7_canMove_20 : decode cX7_canMove 20 = .ok (.aload_n 0, 1) := by decide +kernel
theorem dX7_canMove_21 : decode cX7_canMove 21 = .ok (.getfield 40, 3) := by decide +kernel
theorem dX7_canMove_24 : decode cX7_canMove 24 = .ok (.iload_n 1, 1) := by decide +kernel
theorem dX7_canMove_25 : decode cX7_canMove 25 = .ok (.iaload, 1) := by decide +kernel
theorem dX7_canMove_26 : decode cX7_canMove 26 = .ok (.iaload, 1) := by decide +kernel
theorem dX7_canMove_27 : decode cX7_canMove 27 = .ok (.if_icmp .ne 27, 3) := by decide +kernel
theorem dX7_canMove_30 : decode cX7_canMove 30 = .ok (.aload_n 0, 1) := by decide +kernel
theorem dX7_canMove_31 : decode cX7_canMove 31 = .ok (.getfield 49, 3) := by decide +kernel
theorem dX7_canMove_34 : decode cX7_canMove 34 = .ok (.iload_n 1, 1) := by decide +kernel
theorem dX7_canMove_35 : decode cX7_canMove 35 = .ok (.iaload, 1) := by decide +kernel
theorem dX7_canMove_36 : decode cX7_canMove 36 = .ok (.aload_n 0, 1) := by decide +kernel
theorem dX7_canMove_37 : decode cX7_canMove 37 = .ok (.getfield 9, 3) := by decide +kernel
theorem dX7_canMove_40 : decode cX7_canMove 40 = .ok (.aload_n 0, 1) := by decide +kernel
theorem dX7_canMove_41 : decode cX7_canMove 41 = .ok (.getfield 43, 3) := by decide +kernel
theorem dX7_canMove_44 : decode cX7_canMove 44 = .ok (.iload_n 1, 1) := by decide +kernel
theorem dX7_canMove_45 : decode cX7_canMove 45 = .ok (.iaload, 1) := by decide +kernel
theorem dX7_canMove_46 : decode cX7_canMove 46 = .ok (.iaload, 1) := by decide +kernel
theorem dX7_canMove_47 : decode cX7_canMove 47 = .ok (.if_icmp .ne 7, 3) := by decide +kernel
theorem dX7_canMove_50 : decode cX7_canMove 50 = .ok (.iconst 1, 1) := by decide +kernel
theorem dX7_canMove_51 : decode cX7_canMove 51 = .ok (.goto 4, 3) := by decide +kernel
theorem dX7_canMove_54 : decode cX7_canMove 54 = .ok (.iconst 0, 1) := by decide +kernel
theorem dX7_canMove_55 : decode cX7_canMove 55 = .ok (.ireturn, 1) := by decide +kernel
theorem dX7_moveRow_0 : decode cX7_moveRow 0 = .ok (.aload_n 0, 1) := by decide +kernel
theorem dX7_moveRow_1 : decode cX7_moveRow 1 = .ok (.getfield 52, 3) := by decide +kernel
theorem dX7_moveRow_4 : decode cX7_moveRow 4 = .ok (.bipush 9, 2) := by decide +kernel
theorem dX7_moveRow_6 : decode cX7_moveRow 6 = .ok (.iload_n 1, 1) := by decide +kernel
theorem dX7_moveRow_7 : decode cX7_moveRow 7 = .ok (.imul, 1) := by decide +kernel
theorem dX7_moveRow_8 : decode cX7_moveRow 8 = .ok (.aload_n 2, 1) := by decide +kernel
theorem dX7_moveRow_9 : decode cX7_moveRow 9 = .ok (.aload_n 3, 1) := by decide +kernel
theorem dX7_moveRow_10 : decode cX7_moveRow 10 = .ok (.invokestatic 106, 3) := by decide +kernel
theorem dX7_moveRow_13 : decode cX7_moveRow 13 = .ok (.aload_n 0, 1) := by decide +kernel
theorem dX7_moveRow_14 : decode cX7_moveRow 14 = .ok (.getfield 43, 3) := by decide +kernel
theorem dX7_moveRow_17 : decode cX7_moveRow 17 = .ok (.iload_n 1, 1) := by decide +kernel
theorem dX7_moveRow_18 : decode cX7_moveRow 18 = .ok (.iaload, 1) := by decide +kernel
theorem dX7_moveRow_19 : decode cX7_moveRow 19 = .ok (.ireturn, 1) := by decide +kernel
theorem dX7_applyTable_0 : decode cX7_applyTable 0 = .ok (.iconst 0, 1) := by decide +kernel
theorem dX7_applyTable_1 : decode cX7_applyTable 1 = .ok (.istore 4, 2) := by decide +kernel
theorem dX7_applyTable_3 : decode cX7_applyTable 3 = .ok (.iload 4, 2) := by decide +kernel
theorem dX7_applyTable_5 : decode cX7_applyTable 5 = .ok (.iconst 3, 1) := by decide +kernel
theorem dX7_applyTable_6 : decode cX7_applyTable 6 = .ok (.if_icmp .ge 55, 3) := by decide +kernel
theorem dX7_applyTable_9 : decode cX7_applyTable 9 = .ok (.lconst 0, 1) := by decide +kernel
theorem dX7_applyTable_10 : decode cX7_applyTable 10 = .ok (.lstore 5, 2) := by decide +kernel
theorem dX7_applyTable_12 : decode cX7_applyTable 12 = .ok (.iconst 0, 1) := by decide +kernel
theorem dX7_applyTable_13 : decode cX7_applyTable 13 = .ok (.istore 7, 2) := by decide +kernel
theorem dX7_applyTable_15 : decode cX7_applyTable 15 = .ok (.iload 7, 2) := by decide +kernel
theorem dX7_applyTable_17 : decode cX7_applyTable 17 = .ok (.iconst 3, 1) := by decide +kernel
theorem dX7_applyTable_18 : decode cX7_applyTable 18 = .ok (.if_icmp .ge 31, 3) := by decide +kernel
theorem dX7_applyTable_21 : decode cX7_applyTable 21 = .ok (.lload 5, 2) := by decide +kernel
theorem dX7_applyTable_23 : decode cX7_applyTable 23 = .ok (.aload_n 2, 1) := by decide +kernel
theorem dX7_applyTable_24 : decode cX7_applyTable 24 = .ok (.iload 7, 2) := by decide +kernel
theorem dX7_applyTable_26 : decode cX7_applyTable 26 = .ok (.laload, 1) := by decide +kernel
theorem dX7_applyTable_27 : decode cX7_applyTable 27 = .ok (.aload_n 0, 1) := by decide +kernel
theorem dX7_applyTable_28 : decode cX7_applyTable 28 = .ok (.iload_n 1, 1) := by decide +kernel
theorem dX7_applyTable_29 : decode cX7_applyTable 29 = .ok (.iconst 3, 1) := by decide +kernel
theorem dX7_applyTable_30 : decode cX7_applyTable 30 = .ok (.iload 7, 2) := by decide +kernel
theorem dX7_applyTable_32 : decode cX7_applyTable 32 = .ok (.imul, 1) := by decide +kernel
theorem dX7_applyTable_33 : decode cX7_applyTable 33 = .ok (.iadd, 1) := by decide +kernel
theorem dX7_applyTable_34 : decode cX7_applyTable 34 = .ok (.iload 4, 2) := by decide +kernel
theorem dX7_applyTable_36 : decode cX7_applyTable 36 = .ok (.iadd, 1) := by decide +kernel
theorem dX7_applyTable_37 : decode cX7_applyTable 37 = .ok (.iaload, 1) := by decide +kernel
theorem dX7_applyTable_38 : decode cX7_applyTable 38 = .ok (.i2l, 1) := by decide +kernel
theorem dX7_applyTable_39 : decode cX7_applyTable 39 = .ok (.lmul, 1) := by decide +kernel
theorem dX7_applyTable_40 : decode cX7_applyTable 40 = .ok (.ladd, 1) := by decide +kernel
theorem dX7_applyTable_41 : decode cX7_applyTable 41 = .ok (.lstore 5, 2) := by decide +kernel
theorem dX7_applyTable_43 : decode cX7_applyTable 43 = .ok (.iinc 7 1, 3) := by decide +kernel
theorem dX7_applyTable_46 : decode cX7_applyTable 46 = .ok (.goto (-31), 3) := by decide +kernel
theorem dX7_applyTable_49 : decode cX7_applyTable 49 = .ok (.aload_n 3, 1) := by decide +kernel
theorem dX7_applyTable_50 : decode cX7_applyTable 50 = .ok (.iload 4, 2) := by decide +kernel
theorem dX7_applyTable_52 : decode cX7_applyTable 52 = .ok (.lload 5, 2) := by decide +kernel
theorem dX7_applyTable_54 : decode cX7_applyTable 54 = .ok (.lastore, 1) := by decide +kernel
theorem dX7_applyTable_55 : decode cX7_applyTable 55 = .ok (.iinc 4 1, 3) := by decide +kernel
theorem dX7_applyTable_58 : decode cX7_applyTable 58 = .ok (.goto (-55), 3) := by decide +kernel
theorem dX7_applyTable_61 : decode cX7_applyTable 61 = .ok (.return_, 1) := by decide +kernel
theorem dX8_init_0 : decode cX8_init 0 = .ok (.aload_n 0, 1) := by decide +kernel
theorem dX8_init_1 : decode cX8_init 1 = .ok (.invokespecial 3, 3) := by decide +kernel
theorem dX8_init_4 : decode cX8_init 4 = .ok (.aload_n 0, 1) := by decide +kernel
theorem dX8_init_5 : decode cX8_init 5 = .ok (.iconst (-1), 1) := by decide +kernel
theorem dX8_init_6 : decode cX8_init 6 = .ok (.putfield 9, 3) := by decide +kernel
theorem dX8_init_9 : decode cX8_init 9 = .ok (.aload_n 0, 1) := by decide +kernel
theorem dX8_init_10 : decode cX8_init 10 = .ok (.iconst (-1), 1) := by decide +kernel
theorem dX8_init_11 : decode cX8_init 11 = .ok (.putfield 15, 3) := by decide +kernel
theorem dX8_init_14 : decode cX8_init 14 = .ok (.aload_n 0, 1) := by decide +kernel
theorem dX8_init_15 : decode cX8_init 15 = .ok (.bipush 9, 2) := by decide +kernel
theorem dX8_init_17 : decode cX8_init 17 = .ok (.newarray .long, 2) := by decide +kernel
theorem dX8_init_19 : decode cX8_init 19 = .ok (.putfield 18, 3) := by decide +kernel
theorem dX8_init_22 : decode cX8_init 22 = .ok (.aload_n 0, 1) := by decide +kernel
theorem dX8_init_23 : decode cX8_init 23 = .ok (.iconst 3, 1) := by decide +kernel
theorem dX8_init_24 : decode cX8_init 24 = .ok (.newarray .long, 2) := by decide +kernel
theorem dX8_init_26 : decode cX8_init 26 = .ok (.putfield 22, 3) := by decide +kernel
theorem dX8_init_29 : decode cX8_init 29 = .ok (.return_, 1) := by decide +kernel
theorem dX8_becomeAs_0 : decode cX8_becomeAs 0 = .ok (.aload_n 0, 1) := by decide +kernel
theorem dX8_becomeAs_1 : decode cX8_becomeAs 1 = .ok (.aload_n 1, 1) := by decide +kernel
theorem dX8_becomeAs_2 : decode cX8_becomeAs 2 = .ok (.getfield 9, 3) := by decide +kernel
theorem dX8_becomeAs_5 : decode cX8_becomeAs 5 = .ok (.putfield 9, 3) := by decide +kernel
theorem dX8_becomeAs_8 : decode cX8_becomeAs 8 = .ok (.aload_n 0, 1) := by decide +kernel
theorem dX8_becomeAs_9 : decode cX8_becomeAs 9 = .ok (.aload_n 1, 1) := by decide +kernel
theorem dX8_becomeAs_10 : decode cX8_becomeAs 10 = .ok (.getfield 15, 3) := by decide +kernel
theorem dX8_becomeAs_13 : decode cX8_becomeAs 13 = .ok (.putfield 15, 3) := by decide +kernel
theorem dX8_becomeAs_16 : decode cX8_becomeAs 16 = .ok (.aload_n 1, 1) := by decide +kernel
theorem dX8_becomeAs_17 : decode cX8_becomeAs 17 = .ok (.getfield 18, 3) := by decide +kernel
theorem dX8_becomeAs_20 : decode cX8_becomeAs 20 = .ok (.iconst 0, 1) := by decide +kernel
theorem dX8_becomeAs_21 : decode cX8_becomeAs 21 = .ok (.aload_n 0, 1) := by decide +kernel
theorem dX8_becomeAs_22 : decode cX8_becomeAs 22 = .ok (.getfield 18, 3) := by decide +kernel
theorem dX8_becomeAs_25 : decode cX8_becomeAs 25 = .ok (.iconst 0, 1) := by decide +kernel
theorem dX8_becomeAs_26 : decode cX8_becomeAs 26 = .ok (.bipush 9, 2) := by decide +kernel
theorem dX8_becomeAs_28 : decode cX8_becomeAs 28 = .ok (.invokestatic 25, 3) := by decide +kernel
theorem dX8_becomeAs_31 : decode cX8_becomeAs 31 = .ok (.return_, 1) := by decide +kernel
theorem dX8_becomeMap_0 : decode cX8_becomeMap 0 = .ok (.aload_n 0, 1) := by decide +kernel
theorem dX8_becomeMap_1 : decode cX8_becomeMap 1 = .ok (.aload_n 1, 1) := by decide +kernel
theorem dX8_becomeMap_2 : decode cX8_becomeMap 2 = .ok (.getfield 31, 3) := by decide +kernel
theorem dX8_becomeMap_5 : decode cX8_becomeMap 5 = .ok (.iload_n 2, 1) := by decide +kernel
theorem dX8_becomeMap_6 : decode cX8_becomeMap 6 = .ok (.iaload, 1) := by decide +kernel
theorem dX8_becomeMap_7 : decode cX8_becomeMap 7 = .ok (.putfield 9, 3) := by decide +kernel
theorem dX8_becomeMap_10 : decode cX8_becomeMap 10 = .ok (.aload_n 0, 1) := by decide +kernel
theorem dX8_becomeMap_11 : decode cX8_becomeMap 11 = .ok (.aload_n 1, 1) := by decide +kernel
theorem dX8_becomeMap_12 : decode cX8_becomeMap 12 = .ok (.getfield 36, 3) := by decide +kernel
theorem dX8_becomeMap_15 : decode cX8_becomeMap 15 = .ok (.iload_n 2, 1) := by decide +kernel
theorem dX8_becomeMap_16 : decode cX8_becomeMap 16 = .ok (.iaload, 1) := by decide +kernel
theorem dX8_becomeMap_17 : decode cX8_becomeMap 17 = .ok (.putfield 15, 3) := by decide +kernel
theorem dX8_becomeMap_20 : decode cX8_becomeMap 20 = .ok (.iconst 0, 1) := by decide +kernel
theorem dX8_becomeMap_21 : decode cX8_becomeMap 21 = .ok (.istore_n 3, 1) := by decide +kernel
theorem dX8_becomeMap_22 : decode cX8_becomeMap 22 = .ok (.iload_n 3, 1) := by decide +kernel
theorem dX8_becomeMap_23 : decode cX8_becomeMap 23 = .ok (.bipush 9, 2) := by decide +kernel
theorem dX8_becomeMap_25 : decode cX8_becomeMap 25 = .ok (.if_icmp .ge 27, 3) := by decide +kernel
theorem dX8_becomeMap_28 : decode cX8_becomeMap 28 = .ok (.aload_n 0, 1) := by decide +kernel
theorem dX8_becomeMap_29 : decode cX8_becomeMap 29 = .ok (.getfield 18, 3) := by decide +kernel
theorem dX8_becomeMap_32 : decode cX8_becomeMap 32 = .ok (.iload_n 3, 1) := by decide +kernel
theorem dX8_becomeMap_33 : decode cX8_becomeMap 33 = .ok (.aload_n 1, 1) := by decide +kernel
theorem dX8_becomeMap_34 : decode cX8_becomeMap 34 = .ok (.getfield 38, 3) := by decide +kernel
theorem dX8_becomeMap_37 : decode cX8_becomeMap 37 = .ok (.bipush 9, 2) := by decide +kernel
theorem dX8_becomeMap_39 : decode cX8_becomeMap 39 = .ok (.iload_n 2, 1) := by decide +kernel
theorem dX8_becomeMap_40 : decode cX8_becomeMap 40 = .ok (.imul, 1) := by decide +kernel
theorem dX8_becomeMap_41 : decode cX8_becomeMap 41 = .ok (.iload_n 3, 1) := by decide +kernel
theorem dX8_becomeMap_42 : decode cX8_becomeMap 42 = .ok (.iadd, 1) := by decide +kernel
theorem dX8_becomeMap_43 : decode cX8_becomeMap 43 = .ok (.iaload, 1) := by decide +kernel
theorem dX8_becomeMap_44 : decode cX8_becomeMap 44 = .ok (.i2l, 1) := by decide +kernel
theorem dX8_becomeMap_45 : decode cX8_becomeMap 45 = .ok (.lastore, 1) := by decide +kernel
theorem dX8_becomeMap_46 : decode cX8_becomeMap 46 = .ok (.iinc 3 1, 3) := by decide +kernel
theorem dX8_becomeMap_49 : decode cX8_becomeMap 49 = .ok (.goto (-27), 3) := by decide +kernel
theorem dX8_becomeMap_52 : decode cX8_becomeMap 52 = .ok (.return_, 1) := by decide +kernel
theorem dX8_multiply_0 : decode cX8_multiply 0 = .ok (.iconst 0, 1) := by decide +kernel
theorem dX8_multiply_1 : decode cX8_multiply 1 = .ok (.istore_n 3, 1) := by decide +kernel
theorem dX8_multiply_2 : decode cX8_multiply 2 = .ok (.iload_n 3, 1) := by decide +kernel
theorem dX8_multiply_3 : decode cX8_multiply 3 = .ok (.bipush 9, 2) := by decide +kernel
theorem dX8_multiply_5 : decode cX8_multiply 5 = .ok (.if_icmp .ge 19, 3) := by decide +kernel
theorem dX8_multiply_8 : decode cX8_multiply 8 = .ok (.aload_n 0, 1) := by decide +kernel
theorem dX8_multiply_9 : decode cX8_multiply 9 = .ok (.getfield 18, 3) := by decide +kernel
theorem dX8_multiply_12 : decode cX8_multiply 12 = .ok (.iload_n 3, 1) := by decide +kernel
theorem dX8_multiply_13 : decode cX8_multiply 13 = .ok (.dup2, 1) := by decide +kernel
theorem dX8_multiply_14 : decode cX8_multiply 14 = .ok (.laload, 1) := by decide +kernel
theorem dX8_multiply_15 : decode cX8_multiply 15 = .ok (.lload_n 1, 1) := by decide +kernel
theorem dX8_multiply_16 : decode cX8_multiply 16 = .ok (.lmul, 1) := by decide +kernel
theorem dX8_multiply_17 : decode cX8_multiply 17 = .ok (.lastore, 1) := by decide +kernel
theorem dX8_multiply_18 : decode cX8_multiply 18 = .ok (.iinc 3 1, 3) := by decide +kernel
theorem dX8_multiply_21 : decode cX8_multiply 21 = .ok (.goto (-19), 3) := by decide +kernel
theorem dX8_multiply_24 : decode cX8_multiply 24 = .ok (.return_, 1) := by decide +kernel
theorem dX8_increase_0 : decode cX8_increase 0 = .ok (.iconst 0, 1) := by decide +kernel
theorem dX8_increase_1 : decode cX8_increase 1 = .ok (.istore 4, 2) := by decide +kernel
theorem dX8_increase_3 : decode cX8_increase 3 = .ok (.iload 4, 2) := by decide +kernel
theorem dX8_increase_5 : decode cX8_increase 5 = .ok (.bipush 9, 2) := by decide +kernel
theorem dX8_increase_7 : decode cX8_increase 7 = .ok (.if_icmp .ge 28, 3) := by decide +kernel
theorem dX8_increase_10 : decode cX8_increase 10 = .ok (.aload_n 0, 1) := by decide +kernel
theorem dX8_increase_11 : decode cX8_increase 11 = .ok (.getfield 18, 3) := by decide +kernel
theorem dX8_increase_14 : decode cX8_increase 14 = .ok (.iload 4, 2) := by decide +kernel
theorem dX8_increase_16 : decode cX8_increase 16 = .ok (.dup2, 1) := by decide +kernel
theorem dX8_increase_17 : decode cX8_increase 17 = .ok (.laload, 1) := by decide +kernel
theorem dX8_increase_18 : decode cX8_increase 18 = .ok (.lload_n 2, 1) := by decide +kernel
theorem dX8_increase_19 : decode cX8_increase 19 = .ok (.aload_n 1, 1) := by decide +kernel
theorem dX8_increase_20 : decode cX8_increase 20 = .ok (.getfield 18, 3) := by decide +kernel
theorem dX8_increase_23 : decode cX8_increase 23 = .ok (.iload 4, 2) := by decide +kernel
theorem dX8_increase_25 : decode cX8_increase 25 = .ok (.laload, 1) := by decide +kernel
theorem dX8_increase_26 : decode cX8_increase 26 = .ok (.lmul, 1) := by decide +kernel
theorem dX8_increase_27 : decode cX8_increase 27 = .ok (.ladd, 1) := by decide +kernel
theorem dX8_increase_28 : decode cX8_increase 28 = .ok (.lastore, 1) := by decide +kernel
theorem dX8_increase_29 : decode cX8_increase 29 = .ok (.iinc 4 1, 3) := by decide +kernel
theorem dX8_increase_32 : decode cX8_increase 32 = .ok (.goto (-29), 3) := by decide +kernel
theorem dX8_increase_35 : decode cX8_increase 35 = .ok (.return_, 1) := by decide +kernel
theorem dX8_goOn_0 : decode cX8_goOn 0 = .ok (.aload_n 0, 1) := by decide +kernel
theorem dX8_goOn_1 : decode cX8_goOn 1 = .ok (.aload_n 1, 1) := by decide +kernel
theorem dX8_goOn_2 : decode cX8_goOn 2 = .ok (.getfield 15, 3) := by decide +kernel
theorem dX8_goOn_5 : decode cX8_goOn 5 = .ok (.putfield 15, 3) := by decide +kernel
theorem dX8_goOn_8 : decode cX8_goOn 8 = .ok (.iconst 0, 1) := by decide +kernel
theorem dX8_goOn_9 : decode cX8_goOn 9 = .ok (.istore_n 2, 1) := by decide +kernel
theorem dX8_goOn_10 : decode cX8_goOn 10 = .ok (.iload_n 2, 1) := by decide +kernel
theorem dX8_goOn_11 : decode cX8_goOn 11 = .ok (.iconst 3, 1) := by decide +kernel
theorem dX8_goOn_12 : decode cX8_goOn 12 = .ok (.if_icmp .ge 92, 3) := by decide +kernel
theorem dX8_goOn_15 : decode cX8_goOn 15 = .ok (.iconst 0, 1) := by decide +kernel
theorem dX8_goOn_16 : decode cX8_goOn 16 = .ok (.istore_n 3, 1) := by decide +kernel
theorem dX8_goOn_17 : decode cX8_goOn 17 = .ok (.iload_n 3, 1) := by decide +kernel
theorem dX8_goOn_18 : decode cX8_goOn 18 = .ok (.iconst 3, 1) := by decide +kernel
theorem dX8_goOn_19 : decode cX8_goOn 19 = .ok (.if_icmp .ge 63, 3) := by decide +kernel
theorem dX8_goOn_22 : decode cX8_goOn 22 = .ok (.lconst 0, 1) := by decide +kernel
theorem dX8_goOn_23 : decode cX8_goOn 23 = .ok (.lstore 4, 2) := by decide +kernel
theorem dX8_goOn_25 : decode cX8_goOn 25 = .ok (.iconst 0, 1) := by decide +kernel
theorem dX8_goOn_26 : decode cX8_goOn 26 = .ok (.istore 6, 2) := by decide +kernel
theorem dX8_goOn_28 : decode cX8_goOn 28 = .ok (.iload 6, 2) := by decide +kernel
theorem dX8_goOn_30 : decode cX8_goOn 30 = .ok (.iconst 3, 1) := by decide +kernel
theorem dX8_goOn_31 : decode cX8_goOn 31 = .ok (.if_icmp .ge 37, 3) := by decide +kernel
theorem dX8_goOn_34 : decode cX8_goOn 34 = .ok (.lload 4, 2) := by decide +kernel
theorem dX8_goOn_36 : decode cX8_goOn 36 = .ok (.aload_n 0, 1) := by decide +kernel
theorem dX8_goOn_37 : decode cX8_goOn 37 = .ok (.getfield 18, 3) := by decide +kernel
theorem dX8_goOn_40 : decode cX8_goOn 40 = .ok (.iconst 3, 1) := by decide +kernel
theorem dX8_goOn_41 : decode cX8_goOn 41 = .ok (.iload_n 2, 1) := by decide +kernel
theorem dX8_goOn_42 : decode cX8_goOn 42 = .ok (.imul, 1) := by decide +kernel
theorem dX8_goOn_43 : decode cX8_goOn 43 = .ok (.iload 6, 2) := by decide +kernel
theorem dX8_goOn_45 : decode cX8_goOn 45 = .ok (.iadd, 1) := by decide +kernel
theorem dX8_goOn_46 : decode cX8_goOn 46 = .ok (.laload, 1) := by decide +kernel
theorem dX8_goOn_47 : decode cX8_goOn 47 = .ok (.aload_n 1, 1) := by decide +kernel
theorem dX8_goOn_48 : decode cX8_goOn 48 = .ok (.getfield 18, 3) := by decide +kernel
theorem dX8_goOn_51 : decode cX8_goOn 51 = .ok (.iconst 3, 1) := by decide +kernel
theorem dX8_goOn_52 : decode cX8_goOn 52 = .ok (.iload 6, 2) := by decide +kernel
theorem dX8_goOn_54 : decode cX8_goOn 54 = .ok (.imul, 1) := by decide +kernel
theorem dX8_goOn_55 : decode cX8_goOn 55 = .ok (.iload_n 3, 1) := by decide +kernel
theorem dX8_goOn_56 : decode cX8_goOn 56 = .ok (.iadd, 1) := by decide +kernel
theorem dX8_goOn_57 : decode cX8_goOn 57 = .ok (.laload, 1) := by decide +kernel
theorem dX8_goOn_58 : decode cX8_goOn 58 = .ok (.lmul, 1) := by decide +kernel
theorem dX8_goOn_59 : decode cX8_goOn 59 = .ok (.ladd, 1) := by decide +kernel
theorem dX8_goOn_60 : decode cX8_goOn 60 = .ok (.lstore 4, 2) := by decide +kernel
theorem dX8_goOn_62 : decode cX8_goOn 62 = .ok (.iinc 6 1, 3) := by decide +kernel
theorem dX8_goOn_65 : decode cX8_goOn 65 = .ok (.goto (-37), 3) := by decide +kernel
theorem dX8_goOn_68 : decode cX8_goOn 68 = .ok (.aload_n 0, 1) := by decide +kernel
theorem dX8_goOn_69 : decode cX8_goOn 69 = .ok (.getfield 22, 3) := by decide +kernel
theorem dX8_goOn_72 : decode cX8_goOn 72 = .ok (.iload_n 3, 1) := by decide +kernel
theorem dX8_goOn_73 : decode cX8_goOn 73 = .ok (.lload 4, 2) := by decide +kernel
theorem dX8_goOn_75 : decode cX8_goOn 75 = .ok (.lastore, 1) := by decide +kernel
theorem dX8_goOn_76 : decode cX8_goOn 76 = .ok (.iinc 3 1, 3) := by decide +kernel
theorem dX8_goOn_79 : decode cX8_goOn 79 = .ok (.goto (-62), 3) := by decide +kernel
theorem dX8_goOn_82 : decode cX8_goOn 82 = .ok (.aload_n 0, 1) := by decide +kernel
theorem dX8_goOn_83 : decode cX8_goOn 83 = .ok (.getfield 22, 3) := by decide +kernel
theorem dX8_goOn_86 : decode cX8_goOn 86 = .ok (.iconst 0, 1) := by decide +kernel
theorem dX8_goOn_87 : decode cX8_goOn 87 = .ok (.aload_n 0, 1) := by decide +kernel
theorem dX8_goOn_88 : decode cX8_goOn 88 = .ok (.getfield 18, 3) := by decide +kernel
theorem dX8_goOn_91 : decode cX8_goOn 91 = .ok (.iconst 3, 1) := by decide +kernel
theorem dX8_goOn_92 : decode cX8_goOn 92 = .ok (.iload_n 2, 1) := by decide +kernel
theorem dX8_goOn_93 : decode cX8_goOn 93 = .ok (.imul, 1) := by decide +kernel
theorem dX8_goOn_94 : decode cX8_goOn 94 = .ok (.iconst 3, 1) := by decide +kernel
theorem dX8_goOn_95 : decode cX8_goOn 95 = .ok (.invokestatic 25, 3) := by decide +kernel
theorem dX8_goOn_98 : decode cX8_goOn 98 = .ok (.iinc 2 1, 3) := by decide +kernel
theorem dX8_goOn_101 : decode cX8_goOn 101 = .ok (.goto (-91), 3) := by decide +kernel
theorem dX8_goOn_104 : decode cX8_goOn 104 = .ok (.return_, 1) := by decide +kernel
theorem dX8_makeNormal_0 : decode cX8_makeNormal 0 = .ok (.iconst 0, 1) := by decide +kernel
theorem dX8_makeNormal_1 : decode cX8_makeNormal 1 = .ok (.istore_n 2, 1) := by decide +kernel
theorem dX8_makeNormal_2 : decode cX8_makeNormal 2 = .ok (.iload_n 2, 1) := by decide +kernel
theorem dX8_makeNormal_3 : decode cX8_makeNormal 3 = .ok (.iconst 3, 1) := by decide +kernel
theorem dX8_makeNormal_4 : decode cX8_makeNormal 4 = .ok (.if_icmp .ge 49, 3) := by decide +kernel
theorem dX8_makeNormal_7 : decode cX8_makeNormal 7 = .ok (.aload_n 0, 1) := by decide +kernel
theorem dX8_makeNormal_8 : decode cX8_makeNormal 8 = .ok (.getfield 18, 3) := by decide +kernel
theorem dX8_makeNormal_11 : decode cX8_makeNormal 11 = .ok (.iconst 3, 1) := by decide +kernel
theorem dX8_makeNormal_12 : decode cX8_makeNormal 12 = .ok (.iload_n 2, 1) := by decide +kernel
theorem dX8_makeNormal_13 : decode cX8_makeNormal 13 = .ok (.imul, 1) := by decide +kernel
theorem dX8_makeNormal_14 : decode cX8_makeNormal 14 = .ok (.aload_n 0, 1) := by decide +kernel
theorem dX8_makeNormal_15 : decode cX8_makeNormal 15 = .ok (.getfield 22, 3) := by decide +kernel
theorem dX8_makeNormal_18 : decode cX8_makeNormal 18 = .ok (.iconst 0, 1) := by decide +kernel
theorem dX8_makeNormal_19 : decode cX8_makeNormal 19 = .ok (.iconst 3, 1) := by decide +kernel
theorem dX8_makeNormal_20 : decode cX8_makeNormal 20 = .ok (.invokestatic 25, 3) := by decide +kernel
theorem dX8_makeNormal_23 : decode cX8_makeNormal 23 = .ok (.aload_n 1, 1) := by decide +kernel
theorem dX8_makeNormal_24 : decode cX8_makeNormal 24 = .ok (.aload_n 0, 1) := by decide +kernel
theorem dX8_makeNormal_25 : decode cX8_makeNormal 25 = .ok (.getfield 22, 3) := by decide +kernel
theorem dX8_makeNormal_28 : decode cX8_makeNormal 28 = .ok (.invokevirtual 41, 3) := by decide +kernel
theorem dX8_makeNormal_31 : decode cX8_makeNormal 31 = .ok (.aload_n 0, 1) := by decide +kernel
theorem dX8_makeNormal_32 : decode cX8_makeNormal 32 = .ok (.getfield 22, 3) := by decide +kernel
theorem dX8_makeNormal_35 : decode cX8_makeNormal 35 = .ok (.iconst 0, 1) := by decide +kernel
theorem dX8_makeNormal_36 : decode cX8_makeNormal 36 = .ok (.aload_n 0, 1) := by decide +kernel
theorem dX8_makeNormal_37 : decode cX8_makeNormal 37 = .ok (.getfield 18, 3) := by decide +kernel
theorem dX8_makeNormal_40 : decode cX8_makeNormal 40 = .ok (.iconst 3, 1) := by decide +kernel
theorem dX8_makeNormal_41 : decode cX8_makeNormal 41 = .ok (.iload_n 2, 1) := by decide +kernel
theorem dX8_makeNormal_42 : decode cX8_makeNormal 42 = .ok (.imul, 1) := by decide +kernel
theorem dX8_makeNormal_43 : decode cX8_makeNormal 43 = .ok (.iconst 3, 1) := by decide +kernel
theorem dX8_makeNormal_44 : decode cX8_makeNormal 44 = .ok (.invokestatic 25, 3) := by decide +kernel
theorem dX8_makeNormal_47 : decode cX8_makeNormal 47 = .ok (.iinc 2 1, 3) := by decide +kernel
theorem dX8_makeNormal_50 : decode cX8_makeNormal 50 = .ok (.goto (-48), 3) := by decide +kernel
theorem dX8_makeNormal_53 : decode cX8_makeNormal 53 = .ok (.return_, 1) := by decide +kernel
theorem dX8_isWithin_0 : decode cX8_isWithin 0 = .ok (.iconst 0, 1) := by decide +kernel
theorem dX8_isWithin_1 : decode cX8_isWithin 1 = .ok (.istore_n 3, 1) := by decide +kernel
theorem dX8_isWithin_2 : decode cX8_isWithin 2 = .ok (.iload_n 3, 1) := by decide +kernel
theorem dX8_isWithin_3 : decode cX8_isWithin 3 = .ok (.bipush 9, 2) := by decide +kernel
theorem dX8_isWithin_5 : decode cX8_isWithin 5 = .ok (.if_icmp .ge 34, 3) := by decide +kernel
theorem dX8_isWithin_8 : decode cX8_isWithin 8 = .ok (.aload_n 0, 1) := by decide +kernel
theorem dX8_isWithin_9 : decode cX8_isWithin 9 = .ok (.getfield 18, 3) := by decide +kernel
theorem dX8_isWithin_12 : decode cX8_isWithin 12 = .ok (.iload_n 3, 1) := by decide +kernel
theorem dX8_isWithin_13 : decode cX8_isWithin 13 = .ok (.laload, 1) := by decide +kernel
theorem dX8_isWithin_14 : decode cX8_isWithin 14 = .ok (.lload_n 1, 1) := by decide +kernel
theorem dX8_isWithin_15 : decode cX8_isWithin 15 = .ok (.lneg, 1) := by decide +kernel
theorem dX8_isWithin_16 : decode cX8_isWithin 16 = .ok (.lcmp, 1) := by decide +kernel
theorem dX8_isWithin_17 : decode cX8_isWithin 17 = .ok (.ifCond .lt 14, 3) := by decide +kernel
theorem dX8_isWithin_20 : decode cX8_isWithin 20 = .ok (.aload_n 0, 1) := by decide +kernel
theorem dX8_isWithin_21 : decode cX8_isWithin 21 = .ok (.getfield 18, 3) := by decide +kernel
theorem dX8_isWithin_24 : decode cX8_isWithin 24 = .ok (.iload_n 3, 1) := by decide +kernel
theorem dX8_isWithin_25 : decode cX8_isWithin 25 = .ok (.laload, 1) := by decide +kernel
theorem dX8_isWithin_26 : decode cX8_isWithin 26 = .ok (.lload_n 1, 1) := by decide +kernel
theorem dX8_isWithin_27 : decode cX8_isWithin 27 = .ok (.lcmp, 1) := by decide +kernel
theorem dX8_isWithin_28 : decode cX8_isWithin 28 = .ok (.ifCond .le 5, 3) := by decide +kernel
theorem dX8_isWithin_31 : decode cX8_isWithin 31 = .ok (.iconst 0, 1) := by decide +kernel
theorem dX8_isWithin_32 : decode cX8_isWithin 32 = .ok (.ireturn, 1) := by decide +kernel
theorem dX8_isWithin_33 : decode cX8_isWithin 33 = .ok (.iinc 3 1, 3) := by decide +kernel
theorem dX8_isWithin_36 : decode cX8_isWithin 36 = .ok (.goto (-34), 3) := by decide +kernel
theorem dX8_isWithin_39 : decode cX8_isWithin 39 = .ok (.iconst 1, 1) := by decide +kernel
theorem dX8_isWithin_40 : decode cX8_isWithin 40 = .ok (.ireturn, 1) := by decide +kernel
theorem dX9_init_0 : decode cX9_init 0 = .ok (.aload_n 0, 1) := by decide +kernel
theorem dX9_init_1 : decode cX9_init 1 = .ok (.invokespecial 3, 3) := by decide +kernel
theorem dX9_init_4 : decode cX9_init 4 = .ok (.aload_n 0, 1) := by decide +kernel
theorem dX9_init_5 : decode cX9_init 5 = .ok (.bipush 100, 2) := by decide +kernel
theorem dX9_init_7 : decode cX9_init 7 = .ok (.newarray .int, 2) := by decide +kernel
theorem dX9_init_9 : decode cX9_init 9 = .ok (.putfield 9, 3) := by decide +kernel
theorem dX9_init_12 : decode cX9_init 12 = .ok (.aload_n 0, 1) := by decide +kernel
theorem dX9_init_13 : decode cX9_init 13 = .ok (.iconst 0, 1) := by decide +kernel
theorem dX9_init_14 : decode cX9_init 14 = .ok (.putfield 15, 3) := by decide +kernel
theorem dX9_init_17 : decode cX9_init 17 = .ok (.aload_n 0, 1) := by decide +kernel
theorem dX9_init_18 : decode cX9_init 18 = .ok (.iconst 0, 1) := by decide +kernel
theorem dX9_init_19 : decode cX9_init 19 = .ok (.putfield 19, 3) := by decide +kernel
theorem dX9_init_22 : decode cX9_init 22 = .ok (.aload_n 0, 1) := by decide +kernel
theorem dX9_init_23 : decode cX9_init 23 = .ok (.iconst 0, 1) := by decide +kernel
theorem dX9_init_24 : decode cX9_init 24 = .ok (.putfield 22, 3) := by decide +kernel
theorem dX9_init_27 : decode cX9_init 27 = .ok (.aload_n 0, 1) := by decide +kernel
theorem dX9_init_28 : decode cX9_init 28 = .ok (.iconst 0, 1) := by decide +kernel
theorem dX9_init_29 : decode cX9_init 29 = .ok (.putfield 26, 3) := by decide +kernel
theorem dX9_init_32 : decode cX9_init 32 = .ok (.aload_n 0, 1) := by decide +kernel
theorem dX9_init_33 : decode cX9_init 33 = .ok (.iconst 0, 1) := by decide +kernel
theorem dX9_init_34 : decode cX9_init 34 = .ok (.putfield 29, 3) := by decide +kernel
theorem dX9_init_37 : decode cX9_init 37 = .ok (.aload_n 0, 1) := by decide +kernel
theorem dX9_init_38 : decode cX9_init 38 = .ok (.iconst 0, 1) := by decide +kernel
theorem dX9_init_39 : decode cX9_init 39 = .ok (.putfield 32, 3) := by decide +kernel
theorem dX9_init_42 : decode cX9_init 42 = .ok (.aload_n 0, 1) := by decide +kernel
theorem dX9_init_43 : decode cX9_init 43 = .ok (.iconst 5, 1) := by decide +kernel
theorem dX9_init_44 : decode cX9_init 44 = .ok (.anewarray 35, 3) := by decide +kernel
theorem dX9_init_47 : decode cX9_init 47 = .ok (.putfield 37, 3) := by decide +kernel
theorem dX9_init_50 : decode cX9_init 50 = .ok (.aload_n 0, 1) := by decide +kernel
theorem dX9_init_51 : decode cX9_init 51 = .ok (.iconst 5, 1) := by decide +kernel
theorem dX9_init_52 : decode cX9_init 52 = .ok (.anewarray 35, 3) := by decide +kernel
theorem dX9_init_55 : decode cX9_init 55 = .ok (.putfield 41, 3) := by decide +kernel
theorem dX9_init_58 : decode cX9_init 58 = .ok (.aload_n 0, 1) := by decide +kernel
theorem dX9_init_59 : decode cX9_init 59 = .ok (.iconst 5, 1) := by decide +kernel
theorem dX9_init_60 : decode cX9_init 60 = .ok (.anewarray 35, 3) := by decide +kernel
theorem dX9_init_63 : decode cX9_init 63 = .ok (.putfield 44, 3) := by decide +kernel
theorem dX9_init_66 : decode cX9_init 66 = .ok (.iconst 0, 1) := by decide +kernel
theorem dX9_init_67 : decode cX9_init 67 = .ok (.istore_n 1, 1) := by decide +kernel
theorem dX9_init_68 : decode cX9_init 68 = .ok (.iload_n 1, 1) := by decide +kernel
theorem dX9_init_69 : decode cX9_init 69 = .ok (.iconst 4, 1) := by decide +kernel
theorem dX9_init_70 : decode cX9_init 70 = .ok (.if_icmp .gt 48, 3) := by decide +kernel
theorem dX9_init_73 : decode cX9_init 73 = .ok (.aload_n 0, 1) := by decide +kernel
theorem dX9_init_74 : decode cX9_init 74 = .ok (.getfield 37, 3) := by decide +kernel
theorem dX9_init_77 : decode cX9_init 77 = .ok (.iload_n 1, 1) := by decide +kernel
theorem dX9_init_78 : decode cX9_init 78 = .ok (.new 35, 3) := by decide +kernel
theorem dX9_init_81 : decode cX9_init 81 = .ok (.dup, 1) := by decide +kernel
theorem dX9_init_82 : decode cX9_init 82 = .ok (.invokespecial 47, 3) := by decide +kernel
theorem dX9_init_85 : decode cX9_init 85 = .ok (.aastore, 1) := by decide +kernel
theorem dX9_init_86 : decode cX9_init 86 = .ok (.aload_n 0, 1) := by decide +kernel
theorem dX9_init_87 : decode cX9_init 87 = .ok (.getfield 41, 3) := by decide +kernel
theorem dX9_init_90 : decode cX9_init 90 = .ok (.iload_n 1, 1) := by decide +kernel
theorem dX9_init_91 : decode cX9_init 91 = .ok (.new 35, 3) := by decide +kernel
theorem dX9_init_94 : decode cX9_init 94 = .ok (.dup, 1) := by decide +kernel
theorem dX9_init_95 : decode cX9_init 95 = .ok (.invokespecial 47, 3) := by decide +kernel
theorem dX9_init_98 : decode cX9_init 98 = .ok (.aastore, 1) := by decide +kernel
theorem dX9_init_99 : decode cX9_init 99 = .ok (.aload_n 0, 1) := by decide +kernel
theorem dX9_init_100 : decode cX9_init 100 = .ok (.getfield 44, 3) := by decide +kernel
theorem dX9_init_103 : decode cX9_init 103 = .ok (.iload_n 1, 1) := by decide +kernel
theorem dX9_init_104 : decode cX9_init 104 = .ok (.new 35, 3) := by decide +kernel
theorem dX9_init_107 : decode cX9_init 107 = .ok (.dup, 1) := by decide +kernel
theorem dX9_init_108 : decode cX9_init 108 = .ok (.invokespecial 47, 3) := by decide +kernel
theorem dX9_init_111 : decode cX9_init 111 = .ok (.aastore, 1) := by decide +kernel
theorem dX9_init_112 : decode cX9_init 112 = .ok (.iinc 1 1, 3) := by decide +kernel
theorem dX9_init_115 : decode cX9_init 115 = .ok (.goto (-47), 3) := by decide +kernel
theorem dX9_init_118 : decode cX9_init 118 = .ok (.return_, 1) := by decide +kernel
theorem dX9_take_0 : decode cX9_take 0 = .ok (.iconst 0, 1) := by decide +kernel
theorem dX9_take_1 : decode cX9_take 1 = .ok (.istore 4, 2) := by decide +kernel
theorem dX9_take_3 : decode cX9_take 3 = .ok (.iload 4, 2) := by decide +kernel
theorem dX9_take_5 : decode cX9_take 5 = .ok (.iload_n 3, 1) := by decide +kernel
theorem dX9_take_6 : decode cX9_take 6 = .ok (.if_icmp .ge 49, 3) := by decide +kernel
theorem dX9_take_9 : decode cX9_take 9 = .ok (.aload_n 0, 1) := by decide +kernel
theorem dX9_take_10 : decode cX9_take 10 = .ok (.getfield 15, 3) := by decide +kernel
theorem dX9_take_13 : decode cX9_take 13 = .ok (.bipush 100, 2) := by decide +kernel
theorem dX9_take_15 : decode cX9_take 15 = .ok (.if_icmp .ge 40, 3) := by decide +kernel
theorem dX9_take_18 : decode cX9_take 18 = .ok (.aload_n 0, 1) := by decide +kernel
theorem dX9_take_19 : decode cX9_take 19 = .ok (.getfield 9, 3) := by decide +kernel
theorem dX9_take_22 : decode cX9_take 22 = .ok (.aload_n 0, 1) := by decide +kernel
theorem dX9_take_23 : decode cX9_take 23 = .ok (.getfield 15, 3) := by decide +kernel
theorem dX9_take_26 : decode cX9_take 26 = .ok (.lload_n 1, 1) := by decide +kernel
theorem dX9_take_27 : decode cX9_take 27 = .ok (.bipush 8, 2) := by decide +kernel
theorem dX9_take_29 : decode cX9_take 29 = .ok (.iload 4, 2) := by decide +kernel
theorem dX9_take_31 : decode cX9_take 31 = .ok (.imul, 1) := by decide +kernel
theorem dX9_take_32 : decode cX9_take 32 = .ok (.lushr, 1) := by decide +kernel
theorem dX9_take_33 : decode cX9_take 33 = .ok (.l2i, 1) := by decide +kernel
theorem dX9_take_34 : decode cX9_take 34 = .ok (.sipush 255, 3) := by decide +kernel
theorem dX9_take_37 : decode cX9_take 37 = .ok (.iand, 1) := by decide +kernel
theorem dX9_take_38 : decode cX9_take 38 = .ok (.iastore, 1) := by decide +kernel
theorem dX9_take_39 : decode cX9_take 39 = .ok (.aload_n 0, 1) := by decide +kernel
theorem dX9_take_40 : decode cX9_take 40 = .ok (.dup, 1) := by decide +kernel
theorem dX9_take_41 : decode cX9_take 41 = .ok (.getfield 15, 3) := by decide +kernel
theorem dX9_take_44 : decode cX9_take 44 = .ok (.iconst 1, 1) := by decide +kernel
theorem dX9_take_45 : decode cX9_take 45 = .ok (.iadd, 1) := by decide +kernel
theorem dX9_take_46 : decode cX9_take 46 = .ok (.putfield 15, 3) := by decide +kernel
theorem dX9_take_49 : decode cX9_take 49 = .ok (.iinc 4 1, 3) := by decide +kernel
theorem dX9_take_52 : decode cX9_take 52 = .ok (.goto (-49), 3) := by decide +kernel
theorem dX9_take_55 : decode cX9_take 55 = .ok (.return_, 1) := by decide +kernel
theorem dX9_told_0 : decode cX9_told 0 = .ok (.aload_n 0, 1) := by decide +kernel
theorem dX9_told_1 : decode cX9_told 1 = .ok (.getfield 37, 3) := by decide +kernel
theorem dX9_told_4 : decode cX9_told 4 = .ok (.iconst 0, 1) := by decide +kernel
theorem dX9_told_5 : decode cX9_told 5 = .ok (.aaload, 1) := by decide +kernel
theorem dX9_told_6 : decode cX9_told 6 = .ok (.areturn, 1) := by decide +kernel
theorem dX9_read_0 : decode cX9_read 0 = .ok (.aload_n 0, 1) := by decide +kernel
theorem dX9_read_1 : decode cX9_read 1 = .ok (.iconst 0, 1) := by decide +kernel
theorem dX9_read_2 : decode cX9_read 2 = .ok (.putfield 19, 3) := by decide +kernel
theorem dX9_read_5 : decode cX9_read 5 = .ok (.aload_n 0, 1) := by decide +kernel
theorem dX9_read_6 : decode cX9_read 6 = .ok (.iconst 0, 1) := by decide +kernel
theorem dX9_read_7 : decode cX9_read 7 = .ok (.putfield 22, 3) := by decide +kernel
theorem dX9_read_10 : decode cX9_read 10 = .ok (.aload_n 0, 1) := by decide +kernel
theorem dX9_read_11 : decode cX9_read 11 = .ok (.iconst 0, 1) := by decide +kernel
theorem dX9_read_12 : decode cX9_read 12 = .ok (.putfield 26, 3) := by decide +kernel
theorem dX9_read_15 : decode cX9_read 15 = .ok (.aload_n 0, 1) := by decide +kernel
theorem dX9_read_16 : decode cX9_read 16 = .ok (.iconst 0, 1) := by decide +kernel
theorem dX9_read_17 : decode cX9_read 17 = .ok (.putfield 29, 3) := by decide +kernel
theorem dX9_read_20 : decode cX9_read 20 = .ok (.aload_n 0, 1) := by decide +kernel
theorem dX9_read_21 : decode cX9_read 21 = .ok (.iconst 0, 1) := by decide +kernel
theorem dX9_read_22 : decode cX9_read 22 = .ok (.putfield 32, 3) := by decide +kernel
theorem dX9_read_25 : decode cX9_read 25 = .ok (.aload_n 0, 1) := by decide +kernel
theorem dX9_read_26 : decode cX9_read 26 = .ok (.aload_n 1, 1) := by decide +kernel
theorem dX9_read_27 : decode cX9_read 27 = .ok (.iconst 0, 1) := by decide +kernel
theorem dX9_read_28 : decode cX9_read 28 = .ok (.invokevirtual 48, 3) := by decide +kernel
theorem dX9_read_31 : decode cX9_read 31 = .ok (.aload_n 0, 1) := by decide +kernel
theorem dX9_read_32 : decode cX9_read 32 = .ok (.getfield 22, 3) := by decide +kernel
theorem dX9_read_35 : decode cX9_read 35 = .ok (.ifCond .ne 16, 3) := by decide +kernel
theorem dX9_read_38 : decode cX9_read 38 = .ok (.aload_n 0, 1) := by decide +kernel
theorem dX9_read_39 : decode cX9_read 39 = .ok (.invokevirtual 52, 3) := by decide +kernel
theorem dX9_read_42 : decode cX9_read 42 = .ok (.iconst (-1), 1) := by decide +kernel
theorem dX9_read_43 : decode cX9_read 43 = .ok (.if_icmp .eq 8, 3) := by decide +kernel
theorem dX9_read_46 : decode cX9_read 46 = .ok (.aload_n 0, 1) := by decide +kernel
theorem dX9_read_47 : decode cX9_read 47 = .ok (.iconst 1, 1) := by decide +kernel
theorem dX9_read_48 : decode cX9_read 48 = .ok (.putfield 22, 3) := by decide +kernel
theorem dX9_read_51 : decode cX9_read 51 = .ok (.aload_n 0, 1) := by decide +kernel
theorem dX9_read_52 : decode cX9_read 52 = .ok (.iconst 0, 1) := by decide +kernel
theorem dX9_read_53 : decode cX9_read 53 = .ok (.putfield 15, 3) := by decide +kernel
theorem dX9_read_56 : decode cX9_read 56 = .ok (.aload_n 0, 1) := by decide +kernel
theorem dX9_read_57 : decode cX9_read 57 = .ok (.getfield 22, 3) := by decide +kernel
theorem dX9_read_60 : decode cX9_read 60 = .ok (.ifCond .eq 11, 3) := by decide +kernel
theorem dX9_read_63 : decode cX9_read 63 = .ok (.bipush (-100), 2) := by decide +kernel
theorem dX9_read_65 : decode cX9_read 65 = .ok (.aload_n 0, 1) := by decide +kernel
theorem dX9_read_66 : decode cX9_read 66 = .ok (.getfield 19, 3) := by decide +kernel
theorem dX9_read_69 : decode cX9_read 69 = .ok (.isub, 1) := by decide +kernel
theorem dX9_read_70 : decode cX9_read 70 = .ok (.ireturn, 1) := by decide +kernel
theorem dX9_read_71 : decode cX9_read 71 = .ok (.aload_n 0, 1) := by decide +kernel
theorem dX9_read_72 : decode cX9_read 72 = .ok (.getfield 26, 3) := by decide +kernel
theorem dX9_read_75 : decode cX9_read 75 = .ok (.ifCond .eq 7, 3) := by decide +kernel
theorem dX9_read_78 : decode cX9_read 78 = .ok (.sipush (-300), 3) := by decide +kernel
theorem dX9_read_81 : decode cX9_read 81 = .ok (.ireturn, 1) := by decide +kernel
theorem dX9_read_82 : decode cX9_read 82 = .ok (.aload_n 0, 1) := by decide +kernel
theorem dX9_read_83 : decode cX9_read 83 = .ok (.getfield 29, 3) := by decide +kernel
theorem dX9_read_86 : decode cX9_read 86 = .ok (.ifCond .eq 7, 3) := by decide +kernel
theorem dX9_read_89 : decode cX9_read 89 = .ok (.sipush (-301), 3) := by decide +kernel
theorem dX9_read_92 : decode cX9_read 92 = .ok (.ireturn, 1) := by decide +kernel
theorem dX9_read_93 : decode cX9_read 93 = .ok (.aload_n 0, 1) := by decide +kernel
theorem dX9_read_94 : decode cX9_read 94 = .ok (.getfield 32, 3) := by decide +kernel
theorem dX9_read_97 : decode cX9_read 97 = .ok (.ifCond .eq 8, 3) := by decide +kernel
theorem dX9_read_100 : decode cX9_read 100 = .ok (.bipush (-16), 2) := by decide +kernel
theorem dX9_read_102 : decode cX9_read 102 = .ok (.goto 4, 3) := by decide +kernel
theorem dX9_read_105 : decode cX9_read 105 = .ok (.iconst 1, 1) := by decide +kernel
theorem dX9_read_106 : decode cX9_read 106 = .ok (.ireturn, 1) := by decide +kernel
theorem dX9_look_0 : decode cX9_look 0 = .ok (.aload_n 0, 1) := by decide +kernel
theorem dX9_look_1 : decode cX9_look 1 = .ok (.getfield 19, 3) := by decide +kernel
theorem dX9_look_4 : decode cX9_look 4 = .ok (.aload_n 0, 1) := by decide +kernel
theorem dX9_look_5 : decode cX9_look 5 = .ok (.getfield 15, 3) := by decide +kernel
theorem dX9_look_8 : decode cX9_look 8 = .ok (.if_icmp .ge 30, 3) := by decide +kernel
theorem dX9_look_11 : decode cX9_look 11 = .ok (.aload_n 0, 1) := by decide +kernel
theorem dX9_look_12 : decode cX9_look 12 = .ok (.getfield 9, 3) := by decide +kernel
theorem dX9_look_15 : decode cX9_look 15 = .ok (.aload_n 0, 1) := by decide +kernel
theorem dX9_look_16 : decode cX9_look 16 = .ok (.getfield 19, 3) := by decide +kernel
theorem dX9_look_19 : decode cX9_look 19 = .ok (.iaload, 1) := by decide +kernel
theorem dX9_look_20 : decode cX9_look 20 = .ok (.bipush 32, 2) := by decide +kernel
theorem dX9_look_22 : decode cX9_look 22 = .ok (.if_icmp .ne 16, 3) := by decide +kernel
theorem dX9_look_25 : decode cX9_look 25 = .ok (.aload_n 0, 1) := by decide +kernel
theorem dX9_look_26 : decode cX9_look 26 = .ok (.dup, 1) := by decide +kernel
theorem dX9_look_27 : decode cX9_look 27 = .ok (.getfield 19, 3) := by decide +kernel
theorem dX9_look_30 : decode cX9_look 30 = .ok (.iconst 1, 1) := by decide +kernel
theorem dX9_look_31 : decode cX9_look 31 = .ok (.iadd, 1) := by decide +kernel
theorem dX9_look_32 : decode cX9_look 32 = .ok (.putfield 19, 3) := by decide +kernel
theorem dX9_look_35 : decode cX9_look 35 = .ok (.goto (-35), 3) := by decide +kernel
theorem dX9_look_38 : decode cX9_look 38 = .ok (.aload_n 0, 1) := by decide +kernel
theorem dX9_look_39 : decode cX9_look 39 = .ok (.getfield 19, 3) := by decide +kernel
theorem dX9_look_42 : decode cX9_look 42 = .ok (.aload_n 0, 1) := by decide +kernel
theorem dX9_look_43 : decode cX9_look 43 = .ok (.getfield 15, 3) := by decide +kernel
theorem dX9_look_46 : decode cX9_look 46 = .ok (.if_icmp .ge 15, 3) := by decide +kernel
theorem dX9_look_49 : decode cX9_look 49 = .ok (.aload_n 0, 1) := by decide +kernel
theorem dX9_look_50 : decode cX9_look 50 = .ok (.getfield 9, 3) := by decide +kernel
theorem dX9_look_53 : decode cX9_look 53 = .ok (.aload_n 0, 1) := by decide +kernel
theorem dX9_look_54 : decode cX9_look 54 = .ok (.getfield 19, 3) := by decide +kernel
theorem dX9_look_57 : decode cX9_look 57 = .ok (.iaload, 1) := by decide +kernel
theorem dX9_look_58 : decode cX9_look 58 = .ok (.goto 4, 3) := by decide +kernel
theorem dX9_look_61 : decode cX9_look 61 = .ok (.iconst (-1), 1) := by decide +kernel
theorem dX9_look_62 : decode cX9_look 62 = .ok (.ireturn, 1) := by decide +kernel
theorem dX9_takeIf_0 : decode cX9_takeIf 0 = .ok (.aload_n 0, 1) := by decide +kernel
theorem dX9_takeIf_1 : decode cX9_takeIf 1 = .ok (.invokevirtual 52, 3) := by decide +kernel
theorem dX9_takeIf_4 : decode cX9_takeIf 4 = .ok (.iload_n 1, 1) := by decide +kernel
theorem dX9_takeIf_5 : decode cX9_takeIf 5 = .ok (.if_icmp .eq 5, 3) := by decide +kernel
theorem dX9_takeIf_8 : decode cX9_takeIf 8 = .ok (.iconst 0, 1) := by decide +kernel
theorem dX9_takeIf_9 : decode cX9_takeIf 9 = .ok (.ireturn, 1) := by decide +kernel
theorem dX9_takeIf_10 : decode cX9_takeIf 10 = .ok (.aload_n 0, 1) := by decide +kernel
theorem dX9_takeIf_11 : decode cX9_takeIf 11 = .ok (.dup, 1) := by decide +kernel
theorem dX9_takeIf_12 : decode cX9_takeIf 12 = .ok (.getfield 19, 3) := by decide +kernel
theorem dX9_takeIf_15 : decode cX9_takeIf 15 = .ok (.iconst 1, 1) := by decide +kernel
theorem dX9_takeIf_16 : decode cX9_takeIf 16 = .ok (.iadd, 1) := by decide +kernel
theorem dX9_takeIf_17 : decode cX9_takeIf 17 = .ok (.putfield 19, 3) := by decide +kernel
theorem dX9_takeIf_20 : decode cX9_takeIf 20 = .ok (.iconst 1, 1) := by decide +kernel
theorem dX9_takeIf_21 : decode cX9_takeIf 21 = .ok (.ireturn, 1) := by decide +kernel
theorem dX9_readSum_0 : decode cX9_readSum 0 = .ok (.aload_n 0, 1) := by decide +kernel
theorem dX9_readSum_1 : decode cX9_readSum 1 = .ok (.bipush 45, 2) := by decide +kernel
theorem dX9_readSum_3 : decode cX9_readSum 3 = .ok (.invokevirtual 56, 3) := by decide +kernel
theorem dX9_readSum_6 : decode cX9_readSum 6 = .ok (.istore_n 3, 1) := by decide +kernel
theorem dX9_readSum_7 : decode cX9_readSum 7 = .ok (.aload_n 0, 1) := by decide +kernel
theorem dX9_readSum_8 : decode cX9_readSum 8 = .ok (.aload_n 1, 1) := by decide +kernel
theorem dX9_readSum_9 : decode cX9_readSum 9 = .ok (.iload_n 2, 1) := by decide +kernel
theorem dX9_readSum_10 : decode cX9_readSum 10 = .ok (.invokevirtual 60, 3) := by decide +kernel
theorem dX9_readSum_13 : decode cX9_readSum 13 = .ok (.aload_n 0, 1) := by decide +kernel
theorem dX9_readSum_14 : decode cX9_readSum 14 = .ok (.getfield 37, 3) := by decide +kernel
theorem dX9_readSum_17 : decode cX9_readSum 17 = .ok (.iload_n 2, 1) := by decide +kernel
theorem dX9_readSum_18 : decode cX9_readSum 18 = .ok (.aaload, 1) := by decide +kernel
theorem dX9_readSum_19 : decode cX9_readSum 19 = .ok (.astore 4, 2) := by decide +kernel
theorem dX9_readSum_21 : decode cX9_readSum 21 = .ok (.aload 4, 2) := by decide +kernel
theorem dX9_readSum_23 : decode cX9_readSum 23 = .ok (.aload_n 0, 1) := by decide +kernel
theorem dX9_readSum_24 : decode cX9_readSum 24 = .ok (.getfield 41, 3) := by decide +kernel
theorem dX9_readSum_27 : decode cX9_readSum 27 = .ok (.iload_n 2, 1) := by decide +kernel
theorem dX9_readSum_28 : decode cX9_readSum 28 = .ok (.aaload, 1) := by decide +kernel
theorem dX9_readSum_29 : decode cX9_readSum 29 = .ok (.invokevirtual 63, 3) := by decide +kernel
theorem dX9_readSum_32 : decode cX9_readSum 32 = .ok (.iload_n 3, 1) := by decide +kernel
theorem dX9_readSum_33 : decode cX9_readSum 33 = .ok (.ifCond .eq 11, 3) := by decide +kernel
theorem dX9_readSum_36 : decode cX9_readSum 36 = .ok (.aload 4, 2) := by decide +kernel
theorem dX9_readSum_38 : decode cX9_readSum 38 = .ok (.ldc2_w 67, 3) := by decide +kernel
theorem dX9_readSum_41 : decode cX9_readSum 41 = .ok (.invokevirtual 69, 3) := by decide +kernel
theorem dX9_readSum_44 : decode cX9_readSum 44 = .ok (.iconst 0, 1) := by decide +kernel
theorem dX9_readSum_45 : decode cX9_readSum 45 = .ok (.istore 5, 2) := by decide +kernel
theorem dX9_readSum_47 : decode cX9_readSum 47 = .ok (.iload 5, 2) := by decide +kernel
theorem dX9_readSum_49 : decode cX9_readSum 49 = .ok (.bipush 100, 2) := by decide +kernel
theorem dX9_readSum_51 : decode cX9_readSum 51 = .ok (.if_icmp .ge 130, 3) := by decide +kernel
theorem dX9_readSum_54 : decode cX9_readSum 54 = .ok (.aload_n 0, 1) := by decide +kernel
theorem dX9_readSum_55 : decode cX9_readSum 55 = .ok (.getfield 22, 3) := by decide +kernel
theorem dX9_readSum_58 : decode cX9_readSum 58 = .ok (.ifCond .ne 123, 3) := by decide +kernel
theorem dX9_readSum_61 : decode cX9_readSum 61 = .ok (.aload_n 0, 1) := by decide +kernel
theorem dX9_readSum_62 : decode cX9_readSum 62 = .ok (.invokevirtual 52, 3) := by decide +kernel
theorem dX9_readSum_65 : decode cX9_readSum 65 = .ok (.istore 6, 2) := by decide +kernel
theorem dX9_readSum_67 : decode cX9_readSum 67 = .ok (.iload 6, 2) := by decide +kernel
theorem dX9_readSum_69 : decode cX9_readSum 69 = .ok (.bipush 43, 2) := by decide +kernel
theorem dX9_readSum_71 : decode cX9_readSum 71 = .ok (.if_icmp .eq 13, 3) := by decide +kernel
theorem dX9_readSum_74 : decode cX9_readSum 74 = .ok (.iload 6, 2) := by decide +kernel
theorem dX9_readSum_76 : decode cX9_readSum 76 = .ok (.bipush 45, 2) := by decide +kernel
theorem dX9_readSum_78 : decode cX9_readSum 78 = .ok (.if_icmp .eq 6, 3) := by decide +kernel
theorem dX9_readSum_81 : decode cX9_readSum 81 = .ok (.goto 100, 3) := by decide +kernel
theorem dX9_readSum_84 : decode cX9_readSum 84 = .ok (.aload_n 0, 1) := by decide +kernel
theorem dX9_readSum_85 : decode cX9_readSum 85 = .ok (.dup, 1) := by decide +kernel
theorem dX9_readSum_86 : decode cX9_readSum 86 = .ok (.getfield 19, 3) := by decide +kernel
theorem dX9_readSum_89 : decode cX9_readSum 89 = .ok (.iconst 1, 1) := by decide +kernel
theorem dX9_readSum_90 : decode cX9_readSum 90 = .ok (.iadd, 1) := by decide +kernel
theorem dX9_readSum_91 : decode cX9_readSum 91 = .ok (.putfield 19, 3) := by decide +kernel
theorem dX9_readSum_94 : decode cX9_readSum 94 = .ok (.aload_n 0, 1) := by decide +kernel
theorem dX9_readSum_95 : decode cX9_readSum 95 = .ok (.aload_n 1, 1) := by decide +kernel
theorem dX9_readSum_96 : decode cX9_readSum 96 = .ok (.iload_n 2, 1) := by decide +kernel
theorem dX9_readSum_97 : decode cX9_readSum 97 = .ok (.invokevirtual 60, 3) := by decide +kernel
theorem dX9_readSum_100 : decode cX9_readSum 100 = .ok (.aload_n 0, 1) := by decide +kernel
theorem dX9_readSum_101 : decode cX9_readSum 101 = .ok (.getfield 41, 3) := by decide +kernel
theorem dX9_readSum_104 : decode cX9_readSum 104 = .ok (.iload_n 2, 1) := by decide +kernel
theorem dX9_readSum_105 : decode cX9_readSum 105 = .ok (.aaload, 1) := by decide +kernel
theorem dX9_readSum_106 : decode cX9_readSum 106 = .ok (.astore 7, 2) := by decide +kernel
theorem dX9_readSum_108 : decode cX9_readSum 108 = .ok (.aload_n 0, 1) := by decide +kernel
theorem dX9_readSum_109 : decode cX9_readSum 109 = .ok (.dup, 1) := by decide +kernel
theorem dX9_readSum_110 : decode cX9_readSum 110 = .ok (.getfield 29, 3) := by decide +kernel
theorem dX9_readSum_113 : decode cX9_readSum 113 = .ok (.aload 7, 2) := by decide +kernel
theorem dX9_readSum_115 : decode cX9_readSum 115 = .ok (.getfield 73, 3) := by decide +kernel
theorem dX9_readSum_118 : decode cX9_readSum 118 = .ok (.aload 4, 2) := by decide +kernel
theorem dX9_readSum_120 : decode cX9_readSum 120 = .ok (.getfield 73, 3) := by decide +kernel
theorem dX9_readSum_123 : decode cX9_readSum 123 = .ok (.if_icmp .ne 16, 3) := by decide +kernel
theorem dX9_readSum_126 : decode cX9_readSum 126 = .ok (.aload 7, 2) := by decide +kernel
theorem dX9_readSum_128 : decode cX9_readSum 128 = .ok (.getfield 76, 3) := by decide +kernel
theorem dX9_readSum_131 : decode cX9_readSum 131 = .ok (.aload 4, 2) := by decide +kernel
theorem dX9_readSum_133 : decode cX9_readSum 133 = .ok (.getfield 76, 3) := by decide +kernel
theorem dX9_readSum_136 : decode cX9_readSum 136 = .ok (.if_icmp .eq 7, 3) := by decide +kernel
theorem dX9_readSum_139 : decode cX9_readSum 139 = .ok (.iconst 1, 1) := by decide +kernel
theorem dX9_readSum_140 : decode cX9_readSum 140 = .ok (.goto 4, 3) := by decide +kernel
theorem dX9_readSum_143 : decode cX9_readSum 143 = .ok (.iconst 0, 1) := by decide +kernel
theorem dX9_readSum_144 : decode cX9_readSum 144 = .ok (.ior, 1) := by decide +kernel
theorem dX9_readSum_145 : decode cX9_readSum 145 = .ok (.putfield 29, 3) := by decide +kernel
theorem dX9_readSum_148 : decode cX9_readSum 148 = .ok (.aload 4, 2) := by decide +kernel
theorem dX9_readSum_150 : decode cX9_readSum 150 = .ok (.aload 7, 2) := by decide +kernel
theorem dX9_readSum_152 : decode cX9_readSum 152 = .ok (.iload 6, 2) := by decide +kernel
theorem dX9_readSum_154 : decode cX9_readSum 154 = .ok (.bipush 43, 2) := by decide +kernel
theorem dX9_readSum_156 : decode cX9_readSum 156 = .ok (.if_icmp .ne 7, 3) := by decide +kernel
theorem dX9_readSum_159 : decode cX9_readSum 159 = .ok (.lconst 1, 1) := by decide +kernel
theorem dX9_readSum_160 : decode cX9_readSum 160 = .ok (.goto 6, 3) := by decide +kernel
theorem dX9_readSum_163 : decode cX9_readSum 163 = .ok (.ldc2_w 67, 3) := by decide +kernel
theorem dX9_readSum_166 : decode cX9_readSum 166 = .ok (.invokevirtual 79, 3) := by decide +kernel
theorem dX9_readSum_169 : decode cX9_readSum 169 = .ok (.aload_n 0, 1) := by decide +kernel
theorem dX9_readSum_170 : decode cX9_readSum 170 = .ok (.aload 4, 2) := by decide +kernel
theorem dX9_readSum_172 : decode cX9_readSum 172 = .ok (.invokevirtual 83, 3) := by decide +kernel
theorem dX9_readSum_175 : decode cX9_readSum 175 = .ok (.iinc 5 1, 3) := by decide +kernel
theorem dX9_readSum_178 : decode cX9_readSum 178 = .ok (.goto (-131), 3) := by decide +kernel
theorem dX9_readSum_181 : decode cX9_readSum 181 = .ok (.return_, 1) := by decide +kernel
theorem dX9_readChain_0 : decode cX9_readChain 0 = .ok (.aload_n 0, 1) := by decide +kernel
theorem dX9_readChain_1 : decode cX9_readChain 1 = .ok (.aload_n 1, 1) := by decide +kernel
theorem dX9_readChain_2 : decode cX9_readChain 2 = .ok (.iload_n 2, 1) := by decide +kernel
theorem dX9_readChain_3 : decode cX9_readChain 3 = .ok (.invokevirtual 86, 3) := by decide +kernel
theorem dX9_readChain_6 : decode cX9_readChain 6 = .ok (.aload_n 0, 1) := by decide +kernel
theorem dX9_readChain_7 : decode cX9_readChain 7 = .ok (.getfield 41, 3) := by decide +kernel
theorem dX9_readChain_10 : decode cX9_readChain 10 = .ok (.iload_n 2, 1) := by decide +kernel
theorem dX9_readChain_11 : decode cX9_readChain 11 = .ok (.aaload, 1) := by decide +kernel
theorem dX9_readChain_12 : decode cX9_readChain 12 = .ok (.astore_n 3, 1) := by decide +kernel
theorem dX9_readChain_13 : decode cX9_readChain 13 = .ok (.aload_n 3, 1) := by decide +kernel
theorem dX9_readChain_14 : decode cX9_readChain 14 = .ok (.aload_n 0, 1) := by decide +kernel
theorem dX9_readChain_15 : decode cX9_readChain 15 = .ok (.getfield 44, 3) := by decide +kernel
theorem dX9_readChain_18 : decode cX9_readChain 18 = .ok (.iload_n 2, 1) := by decide +kernel
theorem dX9_readChain_19 : decode cX9_readChain 19 = .ok (.aaload, 1) := by decide +kernel
theorem dX9_readChain_20 : decode cX9_readChain 20 = .ok (.invokevirtual 63, 3) := by decide +kernel
theorem dX9_readChain_23 : decode cX9_readChain 23 = .ok (.iconst 0, 1) := by decide +kernel
theorem dX9_readChain_24 : decode cX9_readChain 24 = .ok (.istore 4, 2) := by decide +kernel
theorem dX9_readChain_26 : decode cX9_readChain 26 = .ok (.iload 4, 2) := by decide +kernel
theorem dX9_readChain_28 : decode cX9_readChain 28 = .ok (.bipush 100, 2) := by decide +kernel
theorem dX9_readChain_30 : decode cX9_readChain 30 = .ok (.if_icmp .ge 76, 3) := by decide +kernel
theorem dX9_readChain_33 : decode cX9_readChain 33 = .ok (.aload_n 0, 1) := by decide +kernel
theorem dX9_readChain_34 : decode cX9_readChain 34 = .ok (.getfield 22, 3) := by decide +kernel
theorem dX9_readChain_37 : decode cX9_readChain 37 = .ok (.ifCond .ne 69, 3) := by decide +kernel
theorem dX9_readChain_40 : decode cX9_readChain 40 = .ok (.aload_n 0, 1) := by decide +kernel
theorem dX9_readChain_41 : decode cX9_readChain 41 = .ok (.bipush 46, 2) := by decide +kernel
theorem dX9_readChain_43 : decode cX9_readChain 43 = .ok (.invokevirtual 56, 3) := by decide +kernel
theorem dX9_readChain_46 : decode cX9_readChain 46 = .ok (.ifCond .eq 60, 3) := by decide +kernel
theorem dX9_readChain_49 : decode cX9_readChain 49 = .ok (.aload_n 0, 1) := by decide +kernel
theorem dX9_readChain_50 : decode cX9_readChain 50 = .ok (.aload_n 1, 1) := by decide +kernel
theorem dX9_readChain_51 : decode cX9_readChain 51 = .ok (.iload_n 2, 1) := by decide +kernel
theorem dX9_readChain_52 : decode cX9_readChain 52 = .ok (.invokevirtual 86, 3) := by decide +kernel
theorem dX9_readChain_55 : decode cX9_readChain 55 = .ok (.aload_n 0, 1) := by decide +kernel
theorem dX9_readChain_56 : decode cX9_readChain 56 = .ok (.dup, 1) := by decide +kernel
theorem dX9_readChain_57 : decode cX9_readChain 57 = .ok (.getfield 29, 3) := by decide +kernel
theorem dX9_readChain_60 : decode cX9_readChain 60 = .ok (.aload_n 0, 1) := by decide +kernel
theorem dX9_readChain_61 : decode cX9_readChain 61 = .ok (.getfield 44, 3) := by decide +kernel
theorem dX9_readChain_64 : decode cX9_readChain 64 = .ok (.iload_n 2, 1) := by decide +kernel
theorem dX9_readChain_65 : decode cX9_readChain 65 = .ok (.aaload, 1) := by decide +kernel
theorem dX9_readChain_66 : decode cX9_readChain 66 = .ok (.getfield 73, 3) := by decide +kernel
theorem dX9_readChain_69 : decode cX9_readChain 69 = .ok (.aload_n 3, 1) := by decide +kernel
theorem dX9_readChain_70 : decode cX9_readChain 70 = .ok (.getfield 76, 3) := by decide +kernel
theorem dX9_readChain_73 : decode cX9_readChain 73 = .ok (.if_icmp .eq 7, 3) := by decide +kernel
theorem dX9_readChain_76 : decode cX9_readChain 76 = .ok (.iconst 1, 1) := by decide +kernel
theorem dX9_readChain_77 : decode cX9_readChain 77 = .ok (.goto 4, 3) := by decide +kernel
theorem dX9_readChain_80 : decode cX9_readChain 80 = .ok (.iconst 0, 1) := by decide +kernel
theorem dX9_readChain_81 : decode cX9_readChain 81 = .ok (.ior, 1) := by decide +kernel
theorem dX9_readChain_82 : decode cX9_readChain 82 = .ok (.putfield 29, 3) := by decide +kernel
theorem dX9_readChain_85 : decode cX9_readChain 85 = .ok (.aload_n 3, 1) := by decide +kernel
theorem dX9_readChain_86 : decode cX9_readChain 86 = .ok (.aload_n 0, 1) := by decide +kernel
theorem dX9_readChain_87 : decode cX9_readChain 87 = .ok (.getfield 44, 3) := by decide +kernel
theorem dX9_readChain_90 : decode cX9_readChain 90 = .ok (.iload_n 2, 1) := by decide +kernel
theorem dX9_readChain_91 : decode cX9_readChain 91 = .ok (.aaload, 1) := by decide +kernel
theorem dX9_readChain_92 : decode cX9_readChain 92 = .ok (.invokevirtual 89, 3) := by decide +kernel
theorem dX9_readChain_95 : decode cX9_readChain 95 = .ok (.aload_n 0, 1) := by decide +kernel
theorem dX9_readChain_96 : decode cX9_readChain 96 = .ok (.aload_n 3, 1) := by decide +kernel
theorem dX9_readChain_97 : decode cX9_readChain 97 = .ok (.invokevirtual 83, 3) := by decide +kernel
theorem dX9_readChain_100 : decode cX9_readChain 100 = .ok (.iinc 4 1, 3) := by decide +kernel
theorem dX9_readChain_103 : decode cX9_readChain 103 = .ok (.goto (-77), 3) := by decide +kernel
theorem dX9_readChain_106 : decode cX9_readChain 106 = .ok (.return_, 1) := by decide +kernel
theorem dX9_readOne_0 : decode cX9_readOne 0 = .ok (.aload_n 0, 1) := by decide +kernel
theorem dX9_readOne_1 : decode cX9_readOne 1 = .ok (.invokevirtual 52, 3) := by decide +kernel
theorem dX9_readOne_4 : decode cX9_readOne 4 = .ok (.istore_n 3, 1) := by decide +kernel
theorem dX9_readOne_5 : decode cX9_readOne 5 = .ok (.iload_n 3, 1) := by decide +kernel
theorem dX9_readOne_6 : decode cX9_readOne 6 = .ok (.bipush 48, 2) := by decide +kernel
theorem dX9_readOne_8 : decode cX9_readOne 8 = .ok (.if_icmp .lt 13, 3) := by decide +kernel
theorem dX9_readOne_11 : decode cX9_readOne 11 = .ok (.iload_n 3, 1) := by decide +kernel
theorem dX9_readOne_12 : decode cX9_readOne 12 = .ok (.bipush 57, 2) := by decide +kernel
theorem dX9_readOne_14 : decode cX9_readOne 14 = .ok (.if_icmp .gt 7, 3) := by decide +kernel
theorem dX9_readOne_17 : decode cX9_readOne 17 = .ok (.iconst 1, 1) := by decide +kernel
theorem dX9_readOne_18 : decode cX9_readOne 18 = .ok (.goto 4, 3) := by decide +kernel
theorem dX9_readOne_21 : decode cX9_readOne 21 = .ok (.iconst 0, 1) := by decide +kernel
theorem dX9_readOne_22 : decode cX9_readOne 22 = .ok (.istore 4, 2) := by decide +kernel
theorem dX9_readOne_24 : decode cX9_readOne 24 = .ok (.iload 4, 2) := by decide +kernel
theorem dX9_readOne_26 : decode cX9_readOne 26 = .ok (.ifCond .eq 13, 3) := by decide +kernel
theorem dX9_readOne_29 : decode cX9_readOne 29 = .ok (.aload_n 0, 1) := by decide +kernel
theorem dX9_readOne_30 : decode cX9_readOne 30 = .ok (.dup, 1) := by decide +kernel
theorem dX9_readOne_31 : decode cX9_readOne 31 = .ok (.getfield 19, 3) := by decide +kernel
theorem dX9_readOne_34 : decode cX9_readOne 34 = .ok (.iconst 1, 1) := by decide +kernel
theorem dX9_readOne_35 : decode cX9_readOne 35 = .ok (.iadd, 1) := by decide +kernel
theorem dX9_readOne_36 : decode cX9_readOne 36 = .ok (.putfield 19, 3) := by decide +kernel
theorem dX9_readOne_39 : decode cX9_readOne 39 = .ok (.aload_n 0, 1) := by decide +kernel
theorem dX9_readOne_40 : decode cX9_readOne 40 = .ok (.invokevirtual 52, 3) := by decide +kernel
theorem dX9_readOne_43 : decode cX9_readOne 43 = .ok (.istore 5, 2) := by decide +kernel
theorem dX9_readOne_45 : decode cX9_readOne 45 = .ok (.iload 5, 2) := by decide +kernel
theorem dX9_readOne_47 : decode cX9_readOne 47 = .ok (.bipush 97, 2) := by decide +kernel
theorem dX9_readOne_49 : decode cX9_readOne 49 = .ok (.if_icmp .lt 34, 3) := by decide +kernel
theorem dX9_readOne_52 : decode cX9_readOne 52 = .ok (.iload 5, 2) := by decide +kernel
theorem dX9_readOne_54 : decode cX9_readOne 54 = .ok (.bipush 105, 2) := by decide +kernel
theorem dX9_readOne_56 : decode cX9_readOne 56 = .ok (.if_icmp .ge 27, 3) := by decide +kernel
theorem dX9_readOne_59 : decode cX9_readOne 59 = .ok (.aload_n 0, 1) := by decide +kernel
theorem dX9_readOne_60 : decode cX9_readOne 60 = .ok (.dup, 1) := by decide +kernel
theorem dX9_readOne_61 : decode cX9_readOne 61 = .ok (.getfield 19, 3) := by decide +kernel
theorem dX9_readOne_64 : decode cX9_readOne 64 = .ok (.iconst 1, 1) := by decide +kernel
theorem dX9_readOne_65 : decode cX9_readOne 65 = .ok (.iadd, 1) := by decide +kernel
theorem dX9_readOne_66 : decode cX9_readOne 66 = .ok (.putfield 19, 3) := by decide +kernel
theorem dX9_readOne_69 : decode cX9_readOne 69 = .ok (.aload_n 0, 1) := by decide +kernel
theorem dX9_readOne_70 : decode cX9_readOne 70 = .ok (.aload_n 1, 1) := by decide +kernel
theorem dX9_readOne_71 : decode cX9_readOne 71 = .ok (.iload 5, 2) := by decide +kernel
theorem dX9_readOne_73 : decode cX9_readOne 73 = .ok (.bipush 97, 2) := by decide +kernel
theorem dX9_readOne_75 : decode cX9_readOne 75 = .ok (.isub, 1) := by decide +kernel
theorem dX9_readOne_76 : decode cX9_readOne 76 = .ok (.iload_n 2, 1) := by decide +kernel
theorem dX9_readOne_77 : decode cX9_readOne 77 = .ok (.invokevirtual 92, 3) := by decide +kernel
theorem dX9_readOne_80 : decode cX9_readOne 80 = .ok (.goto 83, 3) := by decide +kernel
theorem dX9_readOne_83 : decode cX9_readOne 83 = .ok (.iload 5, 2) := by decide +kernel
theorem dX9_readOne_85 : decode cX9_readOne 85 = .ok (.bipush 40, 2) := by decide +kernel
theorem dX9_readOne_87 : decode cX9_readOne 87 = .ok (.if_icmp .ne 71, 3) := by decide +kernel
theorem dX9_readOne_90 : decode cX9_readOne 90 = .ok (.iload_n 2, 1) := by decide +kernel
theorem dX9_readOne_91 : decode cX9_readOne 91 = .ok (.iconst 4, 1) := by decide +kernel
theorem dX9_readOne_92 : decode cX9_readOne 92 = .ok (.if_icmp .ge 66, 3) := by decide +kernel
theorem dX9_readOne_95 : decode cX9_readOne 95 = .ok (.aload_n 0, 1) := by decide +kernel
theorem dX9_readOne_96 : decode cX9_readOne 96 = .ok (.dup, 1) := by decide +kernel
theorem dX9_readOne_97 : decode cX9_readOne 97 = .ok (.getfield 19, 3) := by decide +kernel
theorem dX9_readOne_100 : decode cX9_readOne 100 = .ok (.iconst 1, 1) := by decide +kernel
theorem dX9_readOne_101 : decode cX9_readOne 101 = .ok (.iadd, 1) := by decide +kernel
theorem dX9_readOne_102 : decode cX9_readOne 102 = .ok (.putfield 19, 3) := by decide +kernel
theorem dX9_readOne_105 : decode cX9_readOne 105 = .ok (.aload_n 0, 1) := by decide +kernel
theorem dX9_readOne_106 : decode cX9_readOne 106 = .ok (.aload_n 1, 1) := by decide +kernel
theorem dX9_readOne_107 : decode cX9_readOne 107 = .ok (.iload_n 2, 1) := by decide +kernel
theorem dX9_readOne_108 : decode cX9_readOne 108 = .ok (.iconst 1, 1) := by decide +kernel
theorem dX9_readOne_109 : decode cX9_readOne 109 = .ok (.iadd, 1) := by decide +kernel
theorem dX9_readOne_110 : decode cX9_readOne 110 = .ok (.invokevirtual 48, 3) := by decide +kernel
theorem dX9_readOne_113 : decode cX9_readOne 113 = .ok (.aload_n 0, 1) := by decide +kernel
theorem dX9_readOne_114 : decode cX9_readOne 114 = .ok (.aload_n 0, 1) := by decide +kernel
theorem dX9_readOne_115 : decode cX9_readOne 115 = .ok (.getfield 22, 3) := by decide +kernel
theorem dX9_readOne_118 : decode cX9_readOne 118 = .ok (.ifCond .ne 12, 3) := by decide +kernel
theorem dX9_readOne_121 : decode cX9_readOne 121 = .ok (.aload_n 0, 1) := by decide +kernel
theorem dX9_readOne_122 : decode cX9_readOne 122 = .ok (.bipush 41, 2) := by decide +kernel
theorem dX9_readOne_124 : decode cX9_readOne 124 = .ok (.invokevirtual 56, 3) := by decide +kernel
theorem dX9_readOne_127 : decode cX9_readOne 127 = .ok (.ifCond .ne 7, 3) := by decide +kernel
theorem dX9_readOne_130 : decode cX9_readOne 130 = .ok (.iconst 1, 1) := by decide +kernel
theorem dX9_readOne_131 : decode cX9_readOne 131 = .ok (.goto 4, 3) := by decide +kernel
theorem dX9_readOne_134 : decode cX9_readOne 134 = .ok (.iconst 0, 1) := by decide +kernel
theorem dX9_readOne_135 : decode cX9_readOne 135 = .ok (.putfield 22, 3) := by decide +kernel
theorem dX9_readOne_138 : decode cX9_readOne 138 = .ok (.aload_n 0, 1) := by decide +kernel
theorem dX9_readOne_139 : decode cX9_readOne 139 = .ok (.getfield 44, 3) := by decide +kernel
theorem dX9_readOne_142 : decode cX9_readOne 142 = .ok (.iload_n 2, 1) := by decide +kernel
theorem dX9_readOne_143 : decode cX9_readOne 143 = .ok (.aaload, 1) := by decide +kernel
theorem dX9_readOne_144 : decode cX9_readOne 144 = .ok (.aload_n 0, 1) := by decide +kernel
theorem dX9_readOne_145 : decode cX9_readOne 145 = .ok (.getfield 37, 3) := by decide +kernel
theorem dX9_readOne_148 : decode cX9_readOne 148 = .ok (.iload_n 2, 1) := by decide +kernel
theorem dX9_readOne_149 : decode cX9_readOne 149 = .ok (.iconst 1, 1) := by decide +kernel
theorem dX9_readOne_150 : decode cX9_readOne 150 = .ok (.iadd, 1) := by decide +kernel
theorem dX9_readOne_151 : decode cX9_readOne 151 = .ok (.aaload, 1) := by decide +kernel
theorem dX9_readOne_152 : decode cX9_readOne 152 = .ok (.invokevirtual 63, 3) := by decide +kernel
theorem dX9_readOne_155 : decode cX9_readOne 155 = .ok (.goto 8, 3) := by decide +kernel
theorem dX9_readOne_158 : decode cX9_readOne 158 = .ok (.aload_n 0, 1) := by decide +kernel
theorem dX9_readOne_159 : decode cX9_readOne 159 = .ok (.iconst 1, 1) := by decide +kernel
theorem dX9_readOne_160 : decode cX9_readOne 160 = .ok (.putfield 22, 3) := by decide +kernel
theorem dX9_readOne_163 : decode cX9_readOne 163 = .ok (.iload 4, 2) := by decide +kernel
theorem dX9_readOne_165 : decode cX9_readOne 165 = .ok (.ifCond .eq 27, 3) := by decide +kernel
theorem dX9_readOne_168 : decode cX9_readOne 168 = .ok (.aload_n 0, 1) := by decide +kernel
theorem dX9_readOne_169 : decode cX9_readOne 169 = .ok (.getfield 44, 3) := by decide +kernel
theorem dX9_readOne_172 : decode cX9_readOne 172 = .ok (.iload_n 2, 1) := by decide +kernel
theorem dX9_readOne_173 : decode cX9_readOne 173 = .ok (.aaload, 1) := by decide +kernel
theorem dX9_readOne_174 : decode cX9_readOne 174 = .ok (.iload_n 3, 1) := by decide +kernel
theorem dX9_readOne_175 : decode cX9_readOne 175 = .ok (.bipush 48, 2) := by decide +kernel
theorem dX9_readOne_177 : decode cX9_readOne 177 = .ok (.isub, 1) := by decide +kernel
theorem dX9_readOne_178 : decode cX9_readOne 178 = .ok (.i2l, 1) := by decide +kernel
theorem dX9_readOne_179 : decode cX9_readOne 179 = .ok (.invokevirtual 69, 3) := by decide +kernel
theorem dX9_readOne_182 : decode cX9_readOne 182 = .ok (.aload_n 0, 1) := by decide +kernel
theorem dX9_readOne_183 : decode cX9_readOne 183 = .ok (.aload_n 0, 1) := by decide +kernel
theorem dX9_readOne_184 : decode cX9_readOne 184 = .ok (.getfield 44, 3) := by decide +kernel
theorem dX9_readOne_187 : decode cX9_readOne 187 = .ok (.iload_n 2, 1) := by decide +kernel
theorem dX9_readOne_188 : decode cX9_readOne 188 = .ok (.aaload, 1) := by decide +kernel
theorem dX9_readOne_189 : decode cX9_readOne 189 = .ok (.invokevirtual 83, 3) := by decide +kernel
theorem dX9_readOne_192 : decode cX9_readOne 192 = .ok (.return_, 1) := by decide +kernel
theorem dX9_readMap_0 : decode cX9_readMap 0 = .ok (.aload_n 0, 1) := by decide +kernel
theorem dX9_readMap_1 : decode cX9_readMap 1 = .ok (.dup, 1) := by decide +kernel
theorem dX9_readMap_2 : decode cX9_readMap 2 = .ok (.getfield 26, 3) := by decide +kernel
theorem dX9_readMap_5 : decode cX9_readMap 5 = .ok (.aload_n 1, 1) := by decide +kernel
theorem dX9_readMap_6 : decode cX9_readMap 6 = .ok (.iload_n 2, 1) := by decide +kernel
theorem dX9_readMap_7 : decode cX9_readMap 7 = .ok (.invokevirtual 96, 3) := by decide +kernel
theorem dX9_readMap_10 : decode cX9_readMap 10 = .ok (.ifCond .ne 7, 3) := by decide +kernel
theorem dX9_readMap_13 : decode cX9_readMap 13 = .ok (.iconst 1, 1) := by decide +kernel
theorem dX9_readMap_14 : decode cX9_readMap 14 = .ok (.goto 4, 3) := by decide +kernel
theorem dX9_readMap_17 : decode cX9_readMap 17 = .ok (.iconst 0, 1) := by decide +kernel
theorem dX9_readMap_18 : decode cX9_readMap 18 = .ok (.ior, 1) := by decide +kernel
theorem dX9_readMap_19 : decode cX9_readMap 19 = .ok (.putfield 26, 3) := by decide +kernel
theorem dX9_readMap_22 : decode cX9_readMap 22 = .ok (.aload_n 0, 1) := by decide +kernel
theorem dX9_readMap_23 : decode cX9_readMap 23 = .ok (.getfield 44, 3) := by decide +kernel
theorem dX9_readMap_26 : decode cX9_readMap 26 = .ok (.iload_n 3, 1) := by decide +kernel
theorem dX9_readMap_27 : decode cX9_readMap 27 = .ok (.aaload, 1) := by decide +kernel
theorem dX9_readMap_28 : decode cX9_readMap 28 = .ok (.aload_n 1, 1) := by decide +kernel
theorem dX9_readMap_29 : decode cX9_readMap 29 = .ok (.iload_n 2, 1) := by decide +kernel
theorem dX9_readMap_30 : decode cX9_readMap 30 = .ok (.invokevirtual 101, 3) := by decide +kernel
theorem dX9_readMap_33 : decode cX9_readMap 33 = .ok (.return_, 1) := by decide +kernel
theorem dX9_watch_0 : decode cX9_watch 0 = .ok (.aload_n 1, 1) := by decide +kernel
theorem dX9_watch_1 : decode cX9_watch 1 = .ok (.ldc2_w 104, 3) := by decide +kernel
theorem dX9_watch_4 : decode cX9_watch 4 = .ok (.invokevirtual 106, 3) := by decide +kernel
theorem dX9_watch_7 : decode cX9_watch 7 = .ok (.ifCond .ne 13, 3) := by decide +kernel
theorem dX9_watch_10 : decode cX9_watch 10 = .ok (.aload_n 0, 1) := by decide +kernel
theorem dX9_watch_11 : decode cX9_watch 11 = .ok (.iconst 1, 1) := by decide +kernel
theorem dX9_watch_12 : decode cX9_watch 12 = .ok (.putfield 32, 3) := by decide +kernel
theorem dX9_watch_15 : decode cX9_watch 15 = .ok (.aload_n 1, 1) := by decide +kernel
theorem dX9_watch_16 : decode cX9_watch 16 = .ok (.lconst 0, 1) := by decide +kernel
theorem dX9_watch_17 : decode cX9_watch 17 = .ok (.invokevirtual 69, 3) := by decide +kernel
theorem dX9_watch_20 : decode cX9_watch 20 = .ok (.return_, 1) := by decide +kernel
theorem dX10_init_0 : decode cX10_init 0 = .ok (.aload_n 0, 1) := by decide +kernel
theorem dX10_init_1 : decode cX10_init 1 = .ok (.invokespecial 1, 3) := by decide +kernel
theorem dX10_init_4 : decode cX10_init 4 = .ok (.aload_n 0, 1) := by decide +kernel
theorem dX10_init_5 : decode cX10_init 5 = .ok (.new 7, 3) := by decide +kernel
theorem dX10_init_8 : decode cX10_init 8 = .ok (.dup, 1) := by decide +kernel
theorem dX10_init_9 : decode cX10_init 9 = .ok (.invokespecial 9, 3) := by decide +kernel
theorem dX10_init_12 : decode cX10_init 12 = .ok (.putfield 10, 3) := by decide +kernel
theorem dX10_init_15 : decode cX10_init 15 = .ok (.aload_n 0, 1) := by decide +kernel
theorem dX10_init_16 : decode cX10_init 16 = .ok (.new 7, 3) := by decide +kernel
theorem dX10_init_19 : decode cX10_init 19 = .ok (.dup, 1) := by decide +kernel
theorem dX10_init_20 : decode cX10_init 20 = .ok (.invokespecial 9, 3) := by decide +kernel
theorem dX10_init_23 : decode cX10_init 23 = .ok (.putfield 16, 3) := by decide +kernel
theorem dX10_init_26 : decode cX10_init 26 = .ok (.aload_n 0, 1) := by decide +kernel
theorem dX10_init_27 : decode cX10_init 27 = .ok (.iconst 0, 1) := by decide +kernel
theorem dX10_init_28 : decode cX10_init 28 = .ok (.putfield 19, 3) := by decide +kernel
theorem dX10_init_31 : decode cX10_init 31 = .ok (.aload_n 0, 1) := by decide +kernel
theorem dX10_init_32 : decode cX10_init 32 = .ok (.new 23, 3) := by decide +kernel
theorem dX10_init_35 : decode cX10_init 35 = .ok (.dup, 1) := by decide +kernel
theorem dX10_init_36 : decode cX10_init 36 = .ok (.invokespecial 25, 3) := by decide +kernel
theorem dX10_init_39 : decode cX10_init 39 = .ok (.putfield 26, 3) := by decide +kernel
theorem dX10_init_42 : decode cX10_init 42 = .ok (.aload_n 0, 1) := by decide +kernel
theorem dX10_init_43 : decode cX10_init 43 = .ok (.new 30, 3) := by decide +kernel
theorem dX10_init_46 : decode cX10_init 46 = .ok (.dup, 1) := by decide +kernel
theorem dX10_init_47 : decode cX10_init 47 = .ok (.invokespecial 32, 3) := by decide +kernel
theorem dX10_init_50 : decode cX10_init 50 = .ok (.putfield 33, 3) := by decide +kernel
theorem dX10_init_53 : decode cX10_init 53 = .ok (.aload_n 0, 1) := by decide +kernel
theorem dX10_init_54 : decode cX10_init 54 = .ok (.new 37, 3) := by decide +kernel
theorem dX10_init_57 : decode cX10_init 57 = .ok (.dup, 1) := by decide +kernel
theorem dX10_init_58 : decode cX10_init 58 = .ok (.invokespecial 39, 3) := by decide +kernel
theorem dX10_init_61 : decode cX10_init 61 = .ok (.putfield 40, 3) := by decide +kernel
theorem dX10_init_64 : decode cX10_init 64 = .ok (.aload_n 0, 1) := by decide +kernel
theorem dX10_init_65 : decode cX10_init 65 = .ok (.iconst 4, 1) := by decide +kernel
theorem dX10_init_66 : decode cX10_init 66 = .ok (.anewarray 44, 3) := by decide +kernel
theorem dX10_init_69 : decode cX10_init 69 = .ok (.putfield 46, 3) := by decide +kernel
theorem dX10_init_72 : decode cX10_init 72 = .ok (.aload_n 0, 1) := by decide +kernel
theorem dX10_init_73 : decode cX10_init 73 = .ok (.iconst 4, 1) := by decide +kernel
theorem dX10_init_74 : decode cX10_init 74 = .ok (.anewarray 50, 3) := by decide +kernel
theorem dX10_init_77 : decode cX10_init 77 = .ok (.putfield 52, 3) := by decide +kernel
theorem dX10_init_80 : decode cX10_init 80 = .ok (.aload_n 0, 1) := by decide +kernel
theorem dX10_init_81 : decode cX10_init 81 = .ok (.new 56, 3) := by decide +kernel
theorem dX10_init_84 : decode cX10_init 84 = .ok (.dup, 1) := by decide +kernel
theorem dX10_init_85 : decode cX10_init 85 = .ok (.invokespecial 58, 3) := by decide +kernel
theorem dX10_init_88 : decode cX10_init 88 = .ok (.putfield 59, 3) := by decide +kernel
theorem dX10_init_91 : decode cX10_init 91 = .ok (.aload_n 0, 1) := by decide +kernel
theorem dX10_init_92 : decode cX10_init 92 = .ok (.new 56, 3) := by decide +kernel
theorem dX10_init_95 : decode cX10_init 95 = .ok (.dup, 1) := by decide +kernel
theorem dX10_init_96 : decode cX10_init 96 = .ok (.invokespecial 58, 3) := by decide +kernel
theorem dX10_init_99 : decode cX10_init 99 = .ok (.putfield 63, 3) := by decide +kernel
theorem dX10_init_102 : decode cX10_init 102 = .ok (.aload_n 0, 1) := by decide +kernel
theorem dX10_init_103 : decode cX10_init 103 = .ok (.new 66, 3) := by decide +kernel
theorem dX10_init_106 : decode cX10_init 106 = .ok (.dup, 1) := by decide +kernel
theorem dX10_init_107 : decode cX10_init 107 = .ok (.invokespecial 68, 3) := by decide +kernel
theorem dX10_init_110 : decode cX10_init 110 = .ok (.putfield 69, 3) := by decide +kernel
theorem dX10_init_113 : decode cX10_init 113 = .ok (.aload_n 0, 1) := by decide +kernel
theorem dX10_init_114 : decode cX10_init 114 = .ok (.new 66, 3) := by decide +kernel
theorem dX10_init_117 : decode cX10_init 117 = .ok (.dup, 1) := by decide +kernel
theorem dX10_init_118 : decode cX10_init 118 = .ok (.invokespecial 68, 3) := by decide +kernel
theorem dX10_init_121 : decode cX10_init 121 = .ok (.putfield 73, 3) := by decide +kernel
theorem dX10_init_124 : decode cX10_init 124 = .ok (.aload_n 0, 1) := by decide +kernel
theorem dX10_init_125 : decode cX10_init 125 = .ok (.new 76, 3) := by decide +kernel
theorem dX10_init_128 : decode cX10_init 128 = .ok (.dup, 1) := by decide +kernel
theorem dX10_init_129 : decode cX10_init 129 = .ok (.invokespecial 78, 3) := by decide +kernel
theorem dX10_init_132 : decode cX10_init 132 = .ok (.putfield 79, 3) := by decide +kernel
theorem dX10_init_135 : decode cX10_init 135 = .ok (.aload_n 0, 1) := by decide +kernel
theorem dX10_init_136 : decode cX10_init 136 = .ok (.new 76, 3) := by decide +kernel
theorem dX10_init_139 : decode cX10_init 139 = .ok (.dup, 1) := by decide +kernel
theorem dX10_init_140 : decode cX10_init 140 = .ok (.invokespecial 78, 3) := by decide +kernel
theorem dX10_init_143 : decode cX10_init 143 = .ok (.putfield 83, 3) := by decide +kernel
theorem dX10_init_146 : decode cX10_init 146 = .ok (.aload_n 0, 1) := by decide +kernel
theorem dX10_init_147 : decode cX10_init 147 = .ok (.new 76, 3) := by decide +kernel
theorem dX10_init_150 : decode cX10_init 150 = .ok (.dup, 1) := by decide +kernel
theorem dX10_init_151 : decode cX10_init 151 = .ok (.invokespecial 78, 3) := by decide +kernel
theorem dX10_init_154 : decode cX10_init 154 = .ok (.putfield 86, 3) := by decide +kernel
theorem dX10_init_157 : decode cX10_init 157 = .ok (.aload_n 0, 1) := by decide +kernel
theorem dX10_init_158 : decode cX10_init 158 = .ok (.bipush 6, 2) := by decide +kernel
theorem dX10_init_160 : decode cX10_init 160 = .ok (.newarray .long, 2) := by decide +kernel
theorem dX10_init_162 : decode cX10_init 162 = .ok (.putfield 89, 3) := by decide +kernel
theorem dX10_init_165 : decode cX10_init 165 = .ok (.aload_n 0, 1) := by decide +kernel
theorem dX10_init_166 : decode cX10_init 166 = .ok (.bipush 6, 2) := by decide +kernel
theorem dX10_init_168 : decode cX10_init 168 = .ok (.newarray .long, 2) := by decide +kernel
theorem dX10_init_170 : decode cX10_init 170 = .ok (.putfield 93, 3) := by decide +kernel
theorem dX10_init_173 : decode cX10_init 173 = .ok (.iconst 0, 1) := by decide +kernel
theorem dX10_init_174 : decode cX10_init 174 = .ok (.istore_n 1, 1) := by decide +kernel
theorem dX10_init_175 : decode cX10_init 175 = .ok (.iload_n 1, 1) := by decide +kernel
theorem dX10_init_176 : decode cX10_init 176 = .ok (.iconst 4, 1) := by decide +kernel
theorem dX10_init_177 : decode cX10_init 177 = .ok (.if_icmp .ge 22, 3) := by decide +kernel
theorem dX10_init_180 : decode cX10_init 180 = .ok (.aload_n 0, 1) := by decide +kernel
theorem dX10_init_181 : decode cX10_init 181 = .ok (.getfield 46, 3) := by decide +kernel
theorem dX10_init_184 : decode cX10_init 184 = .ok (.iload_n 1, 1) := by decide +kernel
theorem dX10_init_185 : decode cX10_init 185 = .ok (.new 44, 3) := by decide +kernel
theorem dX10_init_188 : decode cX10_init 188 = .ok (.dup, 1) := by decide +kernel
theorem dX10_init_189 : decode cX10_init 189 = .ok (.invokespecial 96, 3) := by decide +kernel
theorem dX10_init_192 : decode cX10_init 192 = .ok (.aastore, 1) := by decide +kernel
theorem dX10_init_193 : decode cX10_init 193 = .ok (.iinc 1 1, 3) := by decide +kernel
theorem dX10_init_196 : decode cX10_init 196 = .ok (.goto (-21), 3) := by decide +kernel
theorem dX10_init_199 : decode cX10_init 199 = .ok (.iconst 0, 1) := by decide +kernel
theorem dX10_init_200 : decode cX10_init 200 = .ok (.istore_n 1, 1) := by decide +kernel
theorem dX10_init_201 : decode cX10_init 201 = .ok (.iload_n 1, 1) := by decide +kernel
theorem dX10_init_202 : decode cX10_init 202 = .ok (.iconst 4, 1) := by decide +kernel
theorem dX10_init_203 : decode cX10_init 203 = .ok (.if_icmp .ge 22, 3) := by decide +kernel
theorem dX10_init_206 : decode cX10_init 206 = .ok (.aload_n 0, 1) := by decide +kernel
theorem dX10_init_207 : decode cX10_init 207 = .ok (.getfield 52, 3) := by decide +kernel
theorem dX10_init_210 : decode cX10_init 210 = .ok (.iload_n 1, 1) := by decide +kernel
theorem dX10_init_211 : decode cX10_init 211 = .ok (.new 50, 3) := by decide +kernel
theorem dX10_init_214 : decode cX10_init 214 = .ok (.dup, 1) := by decide +kernel
theorem dX10_init_215 : decode cX10_init 215 = .ok (.invokespecial 97, 3) := by decide +kernel
theorem dX10_init_218 : decode cX10_init 218 = .ok (.aastore, 1) := by decide +kernel
theorem dX10_init_219 : decode cX10_init 219 = .ok (.iinc 1 1, 3) := by decide +kernel
theorem dX10_init_222 : decode cX10_init 222 = .ok (.goto (-21), 3) := by decide +kernel
theorem dX10_init_225 : decode cX10_init 225 = .ok (.return_, 1) := by decide +kernel
theorem dX10_group_0 : decode cX10_group 0 = .ok (.iload_n 1, 1) := by decide +kernel
theorem dX10_group_1 : decode cX10_group 1 = .ok (.invokestatic 98, 3) := by decide +kernel
theorem dX10_group_4 : decode cX10_group 4 = .ok (.ifCond .eq 12, 3) := by decide +kernel
theorem dX10_group_7 : decode cX10_group 7 = .ok (.iload_n 2, 1) := by decide +kernel
theorem dX10_group_8 : decode cX10_group 8 = .ok (.ifCond .lt 8, 3) := by decide +kernel
theorem dX10_group_11 : decode cX10_group 11 = .ok (.iload_n 2, 1) := by decide +kernel
theorem dX10_group_12 : decode cX10_group 12 = .ok (.iconst 3, 1) := by decide +kernel
theorem dX10_group_13 : decode cX10_group 13 = .ok (.if_icmp .le 5, 3) := by decide +kernel
theorem dX10_group_16 : decode cX10_group 16 = .ok (.iconst (-1), 1) := by decide +kernel
theorem dX10_group_17 : decode cX10_group 17 = .ok (.ireturn, 1) := by decide +kernel
theorem dX10_group_18 : decode cX10_group 18 = .ok (.aload_n 0, 1) := by decide +kernel
theorem dX10_group_19 : decode cX10_group 19 = .ok (.getfield 26, 3) := by decide +kernel
theorem dX10_group_22 : decode cX10_group 22 = .ok (.aload_n 0, 1) := by decide +kernel
theorem dX10_group_23 : decode cX10_group 23 = .ok (.getfield 10, 3) := by decide +kernel
theorem dX10_group_26 : decode cX10_group 26 = .ok (.invokevirtual 102, 3) := by decide +kernel
theorem dX10_group_29 : decode cX10_group 29 = .ok (.aload_n 0, 1) := by decide +kernel
theorem dX10_group_30 : decode cX10_group 30 = .ok (.getfield 10, 3) := by decide +kernel
theorem dX10_group_33 : decode cX10_group 33 = .ok (.getfield 106, 3) := by decide +kernel
theorem dX10_group_36 : decode cX10_group 36 = .ok (.iload_n 1, 1) := by decide +kernel
theorem dX10_group_37 : decode cX10_group 37 = .ok (.iaload, 1) := by decide +kernel
theorem dX10_group_38 : decode cX10_group 38 = .ok (.istore_n 3, 1) := by decide +kernel
theorem dX10_group_39 : decode cX10_group 39 = .ok (.aload_n 0, 1) := by decide +kernel
theorem dX10_group_40 : decode cX10_group 40 = .ok (.getfield 10, 3) := by decide +kernel
theorem dX10_group_43 : decode cX10_group 43 = .ok (.iload_n 1, 1) := by decide +kernel
theorem dX10_group_44 : decode cX10_group 44 = .ok (.iload_n 2, 1) := by decide +kernel
theorem dX10_group_45 : decode cX10_group 45 = .ok (.invokevirtual 110, 3) := by decide +kernel
theorem dX10_group_48 : decode cX10_group 48 = .ok (.iload_n 3, 1) := by decide +kernel
theorem dX10_group_49 : decode cX10_group 49 = .ok (.ireturn, 1) := by decide +kernel
theorem dX10_relation_0 : decode cX10_relation 0 = .ok (.iload_n 1, 1) := by decide +kernel
theorem dX10_relation_1 : decode cX10_relation 1 = .ok (.invokestatic 98, 3) := by decide +kernel
theorem dX10_relation_4 : decode cX10_relation 4 = .ok (.ifCond .eq 15, 3) := by decide +kernel
theorem dX10_relation_7 : decode cX10_relation 7 = .ok (.iload_n 2, 1) := by decide +kernel
theorem dX10_relation_8 : decode cX10_relation 8 = .ok (.iload_n 3, 1) := by decide +kernel
theorem dX10_relation_9 : decode cX10_relation 9 = .ok (.iload 4, 2) := by decide +kernel
theorem dX10_relation_11 : decode cX10_relation 11 = .ok (.bipush 9, 2) := by decide +kernel
theorem dX10_relation_13 : decode cX10_relation 13 = .ok (.invokestatic 114, 3) := by decide +kernel
theorem dX10_relation_16 : decode cX10_relation 16 = .ok (.ifCond .ne 5, 3) := by decide +kernel
theorem dX10_relation_19 : decode cX10_relation 19 = .ok (.iconst (-1), 1) := by decide +kernel
theorem dX10_relation_20 : decode cX10_relation 20 = .ok (.ireturn, 1) := by decide +kernel
theorem dX10_relation_21 : decode cX10_relation 21 = .ok (.aload_n 0, 1) := by decide +kernel
theorem dX10_relation_22 : decode cX10_relation 22 = .ok (.getfield 10, 3) := by decide +kernel
theorem dX10_relation_25 : decode cX10_relation 25 = .ok (.getfield 118, 3) := by decide +kernel
theorem dX10_relation_28 : decode cX10_relation 28 = .ok (.iload_n 1, 1) := by decide +kernel
theorem dX10_relation_29 : decode cX10_relation 29 = .ok (.iaload, 1) := by decide +kernel
theorem dX10_relation_30 : decode cX10_relation 30 = .ok (.iconst 4, 1) := by decide +kernel
theorem dX10_relation_31 : decode cX10_relation 31 = .ok (.if_icmp .lt 6, 3) := by decide +kernel
theorem dX10_relation_34 : decode cX10_relation 34 = .ok (.bipush (-2), 2) := by decide +kernel
theorem dX10_relation_36 : decode cX10_relation 36 = .ok (.ireturn, 1) := by decide +kernel
theorem dX10_relation_37 : decode cX10_relation 37 = .ok (.aload_n 0, 1) := by decide +kernel
theorem dX10_relation_38 : decode cX10_relation 38 = .ok (.getfield 26, 3) := by decide +kernel
theorem dX10_relation_41 : decode cX10_relation 41 = .ok (.aload_n 0, 1) := by decide +kernel
theorem dX10_relation_42 : decode cX10_relation 42 = .ok (.getfield 10, 3) := by decide +kernel
theorem dX10_relation_45 : decode cX10_relation 45 = .ok (.invokevirtual 102, 3) := by decide +kernel
theorem dX10_relation_48 : decode cX10_relation 48 = .ok (.aload_n 0, 1) := by decide +kernel
theorem dX10_relation_49 : decode cX10_relation 49 = .ok (.iload_n 1, 1) := by decide +kernel
theorem dX10_relation_50 : decode cX10_relation 50 = .ok (.iload_n 2, 1) := by decide +kernel
theorem dX10_relation_51 : decode cX10_relation 51 = .ok (.iload_n 3, 1) := by decide +kernel
theorem dX10_relation_52 : decode cX10_relation 52 = .ok (.iload 4, 2) := by decide +kernel
theorem dX10_relation_54 : decode cX10_relation 54 = .ok (.invokevirtual 121, 3) := by decide +kernel
theorem dX10_relation_57 : decode cX10_relation 57 = .ok (.aload_n 0, 1) := by decide +kernel
theorem dX10_relation_58 : decode cX10_relation 58 = .ok (.getfield 10, 3) := by decide +kernel
theorem dX10_relation_61 : decode cX10_relation 61 = .ok (.iload_n 1, 1) := by decide +kernel
theorem dX10_relation_62 : decode cX10_relation 62 = .ok (.aload_n 0, 1) := by decide +kernel
theorem dX10_relation_63 : decode cX10_relation 63 = .ok (.getfield 89, 3) := by decide +kernel
theorem dX10_relation_66 : decode cX10_relation 66 = .ok (.invokevirtual 125, 3) := by decide +kernel
theorem dX10_relation_69 : decode cX10_relation 69 = .ok (.aload_n 0, 1) := by decide +kernel
theorem dX10_relation_70 : decode cX10_relation 70 = .ok (.getfield 10, 3) := by decide +kernel
theorem dX10_relation_73 : decode cX10_relation 73 = .ok (.getfield 118, 3) := by decide +kernel
theorem dX10_relation_76 : decode cX10_relation 76 = .ok (.iload_n 1, 1) := by decide +kernel
theorem dX10_relation_77 : decode cX10_relation 77 = .ok (.iaload, 1) := by decide +kernel
theorem dX10_relation_78 : decode cX10_relation 78 = .ok (.ireturn, 1) := by decide +kernel
theorem dX10_groupIs_0 : decode cX10_groupIs 0 = .ok (.iload_n 1, 1) := by decide +kernel
theorem dX10_groupIs_1 : decode cX10_groupIs 1 = .ok (.invokestatic 98, 3) := by decide +kernel
theorem dX10_groupIs_4 : decode cX10_groupIs 4 = .ok (.ifCond .ne 5, 3) := by decide +kernel
theorem dX10_groupIs_7 : decode cX10_groupIs 7 = .ok (.iconst (-1), 1) := by decide +kernel
theorem dX10_groupIs_8 : decode cX10_groupIs 8 = .ok (.ireturn, 1) := by decide +kernel
theorem dX10_groupIs_9 : decode cX10_groupIs 9 = .ok (.iload_n 2, 1) := by decide +kernel
theorem dX10_groupIs_10 : decode cX10_groupIs 10 = .ok (.tableswitch 88 0 3 #[30, 40, 50, 67], 30) := by decide +kernel
theorem dX10_groupIs_40 : decode cX10_groupIs 40 = .ok (.aload_n 0, 1) := by decide +kernel
theorem dX10_groupIs_41 : decode cX10_groupIs 41 = .ok (.getfield 10, 3) := by decide +kernel
theorem dX10_groupIs_44 : decode cX10_groupIs 44 = .ok (.getfield 106, 3) := by decide +kernel
theorem dX10_groupIs_47 : decode cX10_groupIs 47 = .ok (.iload_n 1, 1) := by decide +kernel
theorem dX10_groupIs_48 : decode cX10_groupIs 48 = .ok (.iaload, 1) := by decide +kernel
theorem dX10_groupIs_49 : decode cX10_groupIs 49 = .ok (.ireturn, 1) := by decide +kernel
theorem dX10_groupIs_50 : decode cX10_groupIs 50 = .ok (.aload_n 0, 1) := by decide +kernel
theorem dX10_groupIs_51 : decode cX10_groupIs 51 = .ok (.getfield 10, 3) := by decide +kernel
theorem dX10_groupIs_54 : decode cX10_groupIs 54 = .ok (.getfield 118, 3) := by decide +kernel
theorem dX10_groupIs_57 : decode cX10_groupIs 57 = .ok (.iload_n 1, 1) := by decide +kernel
theorem dX10_groupIs_58 : decode cX10_groupIs 58 = .ok (.iaload, 1) := by decide +kernel
theorem dX10_groupIs_59 : decode cX10_groupIs 59 = .ok (.ireturn, 1) := by decide +kernel
theorem dX10_groupIs_60 : decode cX10_groupIs 60 = .ok (.aload_n 0, 1) := by decide +kernel
theorem dX10_groupIs_61 : decode cX10_groupIs 61 = .ok (.iload_n 1, 1) := by decide +kernel
theorem dX10_groupIs_62 : decode cX10_groupIs 62 = .ok (.aload_n 0, 1) := by decide +kernel
theorem dX10_groupIs_63 : decode cX10_groupIs 63 = .ok (.getfield 79, 3) := by decide +kernel
theorem dX10_groupIs_66 : decode cX10_groupIs 66 = .ok (.invokevirtual 129, 3) := by decide +kernel
theorem dX10_groupIs_69 : decode cX10_groupIs 69 = .ok (.aload_n 0, 1) := by decide +kernel
theorem dX10_groupIs_70 : decode cX10_groupIs 70 = .ok (.getfield 79, 3) := by decide +kernel
theorem dX10_groupIs_73 : decode cX10_groupIs 73 = .ok (.invokevirtual 133, 3) := by decide +kernel
theorem dX10_groupIs_76 : decode cX10_groupIs 76 = .ok (.ireturn, 1) := by decide +kernel
theorem dX10_groupIs_77 : decode cX10_groupIs 77 = .ok (.aload_n 0, 1) := by decide +kernel
theorem dX10_groupIs_78 : decode cX10_groupIs 78 = .ok (.getfield 10, 3) := by decide +kernel
theorem dX10_groupIs_81 : decode cX10_groupIs 81 = .ok (.iload_n 1, 1) := by decide +kernel
theorem dX10_groupIs_82 : decode cX10_groupIs 82 = .ok (.aload_n 0, 1) := by decide +kernel
theorem dX10_groupIs_83 : decode cX10_groupIs 83 = .ok (.getfield 69, 3) := by decide +kernel
theorem dX10_groupIs_86 : decode cX10_groupIs 86 = .ok (.invokevirtual 137, 3) := by decide +kernel
theorem dX10_groupIs_89 : decode cX10_groupIs 89 = .ok (.aload_n 0, 1) := by decide +kernel
theorem dX10_groupIs_90 : decode cX10_groupIs 90 = .ok (.getfield 69, 3) := by decide +kernel
theorem dX10_groupIs_93 : decode cX10_groupIs 93 = .ok (.invokevirtual 141, 3) := by decide +kernel
theorem dX10_groupIs_96 : decode cX10_groupIs 96 = .ok (.l2i, 1) := by decide +kernel
theorem dX10_groupIs_97 : decode cX10_groupIs 97 = .ok (.ireturn, 1) := by decide +kernel
theorem dX10_groupIs_98 : decode cX10_groupIs 98 = .ok (.iconst (-1), 1) := by decide +kernel
theorem dX10_groupIs_99 : decode cX10_groupIs 99 = .ok (.ireturn, 1) := by decide +kernel
theorem dX10_ring_0 : decode cX10_ring 0 = .ok (.aload_n 0, 1) := by decide +kernel
theorem dX10_ring_1 : decode cX10_ring 1 = .ok (.iload_n 1, 1) := by decide +kernel
theorem dX10_ring_2 : decode cX10_ring 2 = .ok (.iload_n 2, 1) := by decide +kernel
theorem dX10_ring_3 : decode cX10_ring 3 = .ok (.invokevirtual 145, 3) := by decide +kernel
theorem dX10_ring_6 : decode cX10_ring 6 = .ok (.ifCond .ne 5, 3) := by decide +kernel
theorem dX10_ring_9 : decode cX10_ring 9 = .ok (.iconst (-1), 1) := by decide +kernel
theorem dX10_ring_10 : decode cX10_ring 10 = .ok (.ireturn, 1) := by decide +kernel
theorem dX10_ring_11 : decode cX10_ring 11 = .ok (.aload_n 0, 1) := by decide +kernel
theorem dX10_ring_12 : decode cX10_ring 12 = .ok (.iload_n 1, 1) := by decide +kernel
theorem dX10_ring_13 : decode cX10_ring 13 = .ok (.aload_n 0, 1) := by decide +kernel
theorem dX10_ring_14 : decode cX10_ring 14 = .ok (.getfield 79, 3) := by decide +kernel
theorem dX10_ring_17 : decode cX10_ring 17 = .ok (.invokevirtual 129, 3) := by decide +kernel
theorem dX10_ring_20 : decode cX10_ring 20 = .ok (.aload_n 0, 1) := by decide +kernel
theorem dX10_ring_21 : decode cX10_ring 21 = .ok (.getfield 79, 3) := by decide +kernel
theorem dX10_ring_24 : decode cX10_ring 24 = .ok (.getfield 149, 3) := by decide +kernel
theorem dX10_ring_27 : decode cX10_ring 27 = .ok (.iload_n 2, 1) := by decide +kernel
theorem dX10_ring_28 : decode cX10_ring 28 = .ok (.laload, 1) := by decide +kernel
theorem dX10_ring_29 : decode cX10_ring 29 = .ok (.l2i, 1) := by decide +kernel
theorem dX10_ring_30 : decode cX10_ring 30 = .ok (.ireturn, 1) := by decide +kernel
theorem dX10_step_0 : decode cX10_step 0 = .ok (.aload_n 0, 1) := by decide +kernel
theorem dX10_step_1 : decode cX10_step 1 = .ok (.iload_n 1, 1) := by decide +kernel
theorem dX10_step_2 : decode cX10_step 2 = .ok (.iload_n 2, 1) := by decide +kernel
theorem dX10_step_3 : decode cX10_step 3 = .ok (.invokevirtual 145, 3) := by decide +kernel
theorem dX10_step_6 : decode cX10_step 6 = .ok (.ifCond .ne 5, 3) := by decide +kernel
theorem dX10_step_9 : decode cX10_step 9 = .ok (.iconst (-1), 1) := by decide +kernel
theorem dX10_step_10 : decode cX10_step 10 = .ok (.ireturn, 1) := by decide +kernel
theorem dX10_step_11 : decode cX10_step 11 = .ok (.aload_n 0, 1) := by decide +kernel
theorem dX10_step_12 : decode cX10_step 12 = .ok (.getfield 10, 3) := by decide +kernel
theorem dX10_step_15 : decode cX10_step 15 = .ok (.iload_n 1, 1) := by decide +kernel
theorem dX10_step_16 : decode cX10_step 16 = .ok (.aload_n 0, 1) := by decide +kernel
theorem dX10_step_17 : decode cX10_step 17 = .ok (.getfield 69, 3) := by decide +kernel
theorem dX10_step_20 : decode cX10_step 20 = .ok (.invokevirtual 137, 3) := by decide +kernel
theorem dX10_step_23 : decode cX10_step 23 = .ok (.aload_n 0, 1) := by decide +kernel
theorem dX10_step_24 : decode cX10_step 24 = .ok (.getfield 69, 3) := by decide +kernel
theorem dX10_step_27 : decode cX10_step 27 = .ok (.iload_n 2, 1) := by decide +kernel
theorem dX10_step_28 : decode cX10_step 28 = .ok (.invokevirtual 152, 3) := by decide +kernel
theorem dX10_step_31 : decode cX10_step 31 = .ok (.l2i, 1) := by decide +kernel
theorem dX10_step_32 : decode cX10_step 32 = .ok (.ireturn, 1) := by decide +kernel
theorem dX10_normal_0 : decode cX10_normal 0 = .ok (.aload_n 0, 1) := by decide +kernel
theorem dX10_normal_1 : decode cX10_normal 1 = .ok (.iload_n 1, 1) := by decide +kernel
theorem dX10_normal_2 : decode cX10_normal 2 = .ok (.iload 5, 2) := by decide +kernel
theorem dX10_normal_4 : decode cX10_normal 4 = .ok (.invokevirtual 145, 3) := by decide +kernel
theorem dX10_normal_7 : decode cX10_normal 7 = .ok (.ifCond .eq 13, 3) := by decide +kernel
theorem dX10_normal_10 : decode cX10_normal 10 = .ok (.iload_n 2, 1) := by decide +kernel
theorem dX10_normal_11 : decode cX10_normal 11 = .ok (.iload_n 3, 1) := by decide +kernel
theorem dX10_normal_12 : decode cX10_normal 12 = .ok (.iload 4, 2) := by decide +kernel
theorem dX10_normal_14 : decode cX10_normal 14 = .ok (.invokestatic 156, 3) := by decide +kernel
theorem dX10_normal_17 : decode cX10_normal 17 = .ok (.ifCond .ne 8, 3) := by decide +kernel
theorem dX10_normal_20 : decode cX10_normal 20 = .ok (.iconst (-1), 1) := by decide +kernel
theorem dX10_normal_21 : decode cX10_normal 21 = .ok (.invokestatic 160, 3) := by decide +kernel
theorem dX10_normal_24 : decode cX10_normal 24 = .ok (.lreturn, 1) := by decide +kernel
theorem dX10_normal_25 : decode cX10_normal 25 = .ok (.aload_n 0, 1) := by decide +kernel
theorem dX10_normal_26 : decode cX10_normal 26 = .ok (.iload_n 1, 1) := by decide +kernel
theorem dX10_normal_27 : decode cX10_normal 27 = .ok (.iload_n 2, 1) := by decide +kernel
theorem dX10_normal_28 : decode cX10_normal 28 = .ok (.iload_n 3, 1) := by decide +kernel
theorem dX10_normal_29 : decode cX10_normal 29 = .ok (.iload 4, 2) := by decide +kernel
theorem dX10_normal_31 : decode cX10_normal 31 = .ok (.invokevirtual 121, 3) := by decide +kernel
theorem dX10_normal_34 : decode cX10_normal 34 = .ok (.aload_n 0, 1) := by decide +kernel
theorem dX10_normal_35 : decode cX10_normal 35 = .ok (.getfield 10, 3) := by decide +kernel
theorem dX10_normal_38 : decode cX10_normal 38 = .ok (.iload_n 1, 1) := by decide +kernel
theorem dX10_normal_39 : decode cX10_normal 39 = .ok (.aload_n 0, 1) := by decide +kernel
theorem dX10_normal_40 : decode cX10_normal 40 = .ok (.getfield 69, 3) := by decide +kernel
theorem dX10_normal_43 : decode cX10_normal 43 = .ok (.invokevirtual 137, 3) := by decide +kernel
theorem dX10_normal_46 : decode cX10_normal 46 = .ok (.aload_n 0, 1) := by decide +kernel
theorem dX10_normal_47 : decode cX10_normal 47 = .ok (.getfield 69, 3) := by decide +kernel
theorem dX10_normal_50 : decode cX10_normal 50 = .ok (.aload_n 0, 1) := by decide +kernel
theorem dX10_normal_51 : decode cX10_normal 51 = .ok (.getfield 89, 3) := by decide +kernel
theorem dX10_normal_54 : decode cX10_normal 54 = .ok (.invokevirtual 163, 3) := by decide +kernel
theorem dX10_normal_57 : decode cX10_normal 57 = .ok (.aload_n 0, 1) := by decide +kernel
theorem dX10_normal_58 : decode cX10_normal 58 = .ok (.getfield 89, 3) := by decide +kernel
theorem dX10_normal_61 : decode cX10_normal 61 = .ok (.iload 5, 2) := by decide +kernel
theorem dX10_normal_63 : decode cX10_normal 63 = .ok (.laload, 1) := by decide +kernel
theorem dX10_normal_64 : decode cX10_normal 64 = .ok (.lreturn, 1) := by decide +kernel
theorem dX10_order_0 : decode cX10_order 0 = .ok (.iload_n 1, 1) := by decide +kernel
theorem dX10_order_1 : decode cX10_order 1 = .ok (.invokestatic 98, 3) := by decide +kernel
theorem dX10_order_4 : decode cX10_order 4 = .ok (.ifCond .eq 13, 3) := by decide +kernel
theorem dX10_order_7 : decode cX10_order 7 = .ok (.iload_n 2, 1) := by decide +kernel
theorem dX10_order_8 : decode cX10_order 8 = .ok (.iload_n 3, 1) := by decide +kernel
theorem dX10_order_9 : decode cX10_order 9 = .ok (.iload 4, 2) := by decide +kernel
theorem dX10_order_11 : decode cX10_order 11 = .ok (.invokestatic 156, 3) := by decide +kernel
theorem dX10_order_14 : decode cX10_order 14 = .ok (.ifCond .ne 5, 3) := by decide +kernel
theorem dX10_order_17 : decode cX10_order 17 = .ok (.iconst (-1), 1) := by decide +kernel
theorem dX10_order_18 : decode cX10_order 18 = .ok (.ireturn, 1) := by decide +kernel
theorem dX10_order_19 : decode cX10_order 19 = .ok (.aload_n 0, 1) := by decide +kernel
theorem dX10_order_20 : decode cX10_order 20 = .ok (.iload_n 1, 1) := by decide +kernel
theorem dX10_order_21 : decode cX10_order 21 = .ok (.iload_n 2, 1) := by decide +kernel
theorem dX10_order_22 : decode cX10_order 22 = .ok (.iload_n 3, 1) := by decide +kernel
theorem dX10_order_23 : decode cX10_order 23 = .ok (.iload 4, 2) := by decide +kernel
theorem dX10_order_25 : decode cX10_order 25 = .ok (.invokevirtual 121, 3) := by decide +kernel
theorem dX10_order_28 : decode cX10_order 28 = .ok (.aload_n 0, 1) := by decide +kernel
theorem dX10_order_29 : decode cX10_order 29 = .ok (.getfield 10, 3) := by decide +kernel
theorem dX10_order_32 : decode cX10_order 32 = .ok (.iload_n 1, 1) := by decide +kernel
theorem dX10_order_33 : decode cX10_order 33 = .ok (.aload_n 0, 1) := by decide +kernel
theorem dX10_order_34 : decode cX10_order 34 = .ok (.getfield 69, 3) := by decide +kernel
theorem dX10_order_37 : decode cX10_order 37 = .ok (.invokevirtual 137, 3) := by decide +kernel
theorem dX10_order_40 : decode cX10_order 40 = .ok (.aload_n 0, 1) := by decide +kernel
theorem dX10_order_41 : decode cX10_order 41 = .ok (.getfield 69, 3) := by decide +kernel
theorem dX10_order_44 : decode cX10_order 44 = .ok (.aload_n 0, 1) := by decide +kernel
theorem dX10_order_45 : decode cX10_order 45 = .ok (.getfield 89, 3) := by decide +kernel
theorem dX10_order_48 : decode cX10_order 48 = .ok (.invokevirtual 167, 3) := by decide +kernel
theorem dX10_order_51 : decode cX10_order 51 = .ok (.l2i, 1) := by decide +kernel
theorem dX10_order_52 : decode cX10_order 52 = .ok (.ireturn, 1) := by decide +kernel
theorem dX10_same_0 : decode cX10_same 0 = .ok (.iload_n 1, 1) := by decide +kernel
theorem dX10_same_1 : decode cX10_same 1 = .ok (.invokestatic 98, 3) := by decide +kernel
theorem dX10_same_4 : decode cX10_same 4 = .ok (.ifCond .eq 10, 3) := by decide +kernel
theorem dX10_same_7 : decode cX10_same 7 = .ok (.iload_n 2, 1) := by decide +kernel
theorem dX10_same_8 : decode cX10_same 8 = .ok (.invokestatic 98, 3) := by decide +kernel
theorem dX10_same_11 : decode cX10_same 11 = .ok (.ifCond .ne 5, 3) := by decide +kernel
theorem dX10_same_14 : decode cX10_same 14 = .ok (.iconst (-1), 1) := by decide +kernel
theorem dX10_same_15 : decode cX10_same 15 = .ok (.ireturn, 1) := by decide +kernel
theorem dX10_same_16 : decode cX10_same 16 = .ok (.aload_n 0, 1) := by decide +kernel
theorem dX10_same_17 : decode cX10_same 17 = .ok (.iload_n 1, 1) := by decide +kernel
theorem dX10_same_18 : decode cX10_same 18 = .ok (.aload_n 0, 1) := by decide +kernel
theorem dX10_same_19 : decode cX10_same 19 = .ok (.getfield 79, 3) := by decide +kernel
theorem dX10_same_22 : decode cX10_same 22 = .ok (.invokevirtual 129, 3) := by decide +kernel
theorem dX10_same_25 : decode cX10_same 25 = .ok (.aload_n 0, 1) := by decide +kernel
theorem dX10_same_26 : decode cX10_same 26 = .ok (.iload_n 2, 1) := by decide +kernel
theorem dX10_same_27 : decode cX10_same 27 = .ok (.aload_n 0, 1) := by decide +kernel
theorem dX10_same_28 : decode cX10_same 28 = .ok (.getfield 83, 3) := by decide +kernel
theorem dX10_same_31 : decode cX10_same 31 = .ok (.invokevirtual 129, 3) := by decide +kernel
theorem dX10_same_34 : decode cX10_same 34 = .ok (.aload_n 0, 1) := by decide +kernel
theorem dX10_same_35 : decode cX10_same 35 = .ok (.getfield 79, 3) := by decide +kernel
theorem dX10_same_38 : decode cX10_same 38 = .ok (.aload_n 0, 1) := by decide +kernel
theorem dX10_same_39 : decode cX10_same 39 = .ok (.getfield 83, 3) := by decide +kernel
theorem dX10_same_42 : decode cX10_same 42 = .ok (.invokevirtual 171, 3) := by decide +kernel
theorem dX10_same_45 : decode cX10_same 45 = .ok (.ifCond .eq 7, 3) := by decide +kernel
theorem dX10_same_48 : decode cX10_same 48 = .ok (.iconst 1, 1) := by decide +kernel
theorem dX10_same_49 : decode cX10_same 49 = .ok (.goto 4, 3) := by decide +kernel
theorem dX10_same_52 : decode cX10_same 52 = .ok (.iconst 0, 1) := by decide +kernel
theorem dX10_same_53 : decode cX10_same 53 = .ok (.ireturn, 1) := by decide +kernel
theorem dX10_ofTwo_0 : decode cX10_ofTwo 0 = .ok (.iload_n 1, 1) := by decide +kernel
theorem dX10_ofTwo_1 : decode cX10_ofTwo 1 = .ok (.ifCond .lt 28, 3) := by decide +kernel
theorem dX10_ofTwo_4 : decode cX10_ofTwo 4 = .ok (.iload_n 1, 1) := by decide +kernel
theorem dX10_ofTwo_5 : decode cX10_ofTwo 5 = .ok (.iconst 4, 1) := by decide +kernel
theorem dX10_ofTwo_6 : decode cX10_ofTwo 6 = .ok (.if_icmp .gt 23, 3) := by decide +kernel
theorem dX10_ofTwo_9 : decode cX10_ofTwo 9 = .ok (.iload_n 2, 1) := by decide +kernel
theorem dX10_ofTwo_10 : decode cX10_ofTwo 10 = .ok (.invokestatic 98, 3) := by decide +kernel
theorem dX10_ofTwo_13 : decode cX10_ofTwo 13 = .ok (.ifCond .eq 16, 3) := by decide +kernel
theorem dX10_ofTwo_16 : decode cX10_ofTwo 16 = .ok (.iload_n 3, 1) := by decide +kernel
theorem dX10_ofTwo_17 : decode cX10_ofTwo 17 = .ok (.invokestatic 98, 3) := by decide +kernel
theorem dX10_ofTwo_20 : decode cX10_ofTwo 20 = .ok (.ifCond .eq 9, 3) := by decide +kernel
theorem dX10_ofTwo_23 : decode cX10_ofTwo 23 = .ok (.iload 4, 2) := by decide +kernel
theorem dX10_ofTwo_25 : decode cX10_ofTwo 25 = .ok (.iconst (-1), 1) := by decide +kernel
theorem dX10_ofTwo_26 : decode cX10_ofTwo 26 = .ok (.if_icmp .ge 5, 3) := by decide +kernel
theorem dX10_ofTwo_29 : decode cX10_ofTwo 29 = .ok (.iconst (-1), 1) := by decide +kernel
theorem dX10_ofTwo_30 : decode cX10_ofTwo 30 = .ok (.ireturn, 1) := by decide +kernel
theorem dX10_ofTwo_31 : decode cX10_ofTwo 31 = .ok (.aload_n 0, 1) := by decide +kernel
theorem dX10_ofTwo_32 : decode cX10_ofTwo 32 = .ok (.iload_n 2, 1) := by decide +kernel
theorem dX10_ofTwo_33 : decode cX10_ofTwo 33 = .ok (.aload_n 0, 1) := by decide +kernel
theorem dX10_ofTwo_34 : decode cX10_ofTwo 34 = .ok (.getfield 79, 3) := by decide +kernel
theorem dX10_ofTwo_37 : decode cX10_ofTwo 37 = .ok (.invokevirtual 129, 3) := by decide +kernel
theorem dX10_ofTwo_40 : decode cX10_ofTwo 40 = .ok (.aload_n 0, 1) := by decide +kernel
theorem dX10_ofTwo_41 : decode cX10_ofTwo 41 = .ok (.iload_n 3, 1) := by decide +kernel
theorem dX10_ofTwo_42 : decode cX10_ofTwo 42 = .ok (.aload_n 0, 1) := by decide +kernel
theorem dX10_ofTwo_43 : decode cX10_ofTwo 43 = .ok (.getfield 83, 3) := by decide +kernel
theorem dX10_ofTwo_46 : decode cX10_ofTwo 46 = .ok (.invokevirtual 129, 3) := by decide +kernel
theorem dX10_ofTwo_49 : decode cX10_ofTwo 49 = .ok (.aload_n 0, 1) := by decide +kernel
theorem dX10_ofTwo_50 : decode cX10_ofTwo 50 = .ok (.getfield 86, 3) := by decide +kernel
theorem dX10_ofTwo_53 : decode cX10_ofTwo 53 = .ok (.iload_n 1, 1) := by decide +kernel
theorem dX10_ofTwo_54 : decode cX10_ofTwo 54 = .ok (.aload_n 0, 1) := by decide +kernel
theorem dX10_ofTwo_55 : decode cX10_ofTwo 55 = .ok (.getfield 79, 3) := by decide +kernel
theorem dX10_ofTwo_58 : decode cX10_ofTwo 58 = .ok (.aload_n 0, 1) := by decide +kernel
theorem dX10_ofTwo_59 : decode cX10_ofTwo 59 = .ok (.getfield 83, 3) := by decide +kernel
theorem dX10_ofTwo_62 : decode cX10_ofTwo 62 = .ok (.invokevirtual 175, 3) := by decide +kernel
theorem dX10_ofTwo_65 : decode cX10_ofTwo 65 = .ok (.aload_n 0, 1) := by decide +kernel
theorem dX10_ofTwo_66 : decode cX10_ofTwo 66 = .ok (.getfield 86, 3) := by decide +kernel
theorem dX10_ofTwo_69 : decode cX10_ofTwo 69 = .ok (.iload 4, 2) := by decide +kernel
theorem dX10_ofTwo_71 : decode cX10_ofTwo 71 = .ok (.invokestatic 179, 3) := by decide +kernel
theorem dX10_ofTwo_74 : decode cX10_ofTwo 74 = .ok (.ireturn, 1) := by decide +kernel
theorem dX10_span_0 : decode cX10_span 0 = .ok (.iload_n 1, 1) := by decide +kernel
theorem dX10_span_1 : decode cX10_span 1 = .ok (.invokestatic 98, 3) := by decide +kernel
theorem dX10_span_4 : decode cX10_span 4 = .ok (.ifCond .eq 22, 3) := by decide +kernel
theorem dX10_span_7 : decode cX10_span 7 = .ok (.iload_n 2, 1) := by decide +kernel
theorem dX10_span_8 : decode cX10_span 8 = .ok (.invokestatic 183, 3) := by decide +kernel
theorem dX10_span_11 : decode cX10_span 11 = .ok (.ifCond .eq 15, 3) := by decide +kernel
theorem dX10_span_14 : decode cX10_span 14 = .ok (.iload 4, 2) := by decide +kernel
theorem dX10_span_16 : decode cX10_span 16 = .ok (.ifCond .lt 10, 3) := by decide +kernel
theorem dX10_span_19 : decode cX10_span 19 = .ok (.iload 4, 2) := by decide +kernel
theorem dX10_span_21 : decode cX10_span 21 = .ok (.bipush 9, 2) := by decide +kernel
theorem dX10_span_23 : decode cX10_span 23 = .ok (.if_icmp .le 5, 3) := by decide +kernel
theorem dX10_span_26 : decode cX10_span 26 = .ok (.iconst (-1), 1) := by decide +kernel
theorem dX10_span_27 : decode cX10_span 27 = .ok (.ireturn, 1) := by decide +kernel
theorem dX10_span_28 : decode cX10_span 28 = .ok (.aload_n 0, 1) := by decide +kernel
theorem dX10_span_29 : decode cX10_span 29 = .ok (.getfield 46, 3) := by decide +kernel
theorem dX10_span_32 : decode cX10_span 32 = .ok (.iload_n 2, 1) := by decide +kernel
theorem dX10_span_33 : decode cX10_span 33 = .ok (.aaload, 1) := by decide +kernel
theorem dX10_span_34 : decode cX10_span 34 = .ok (.astore 5, 2) := by decide +kernel
theorem dX10_span_36 : decode cX10_span 36 = .ok (.aload 5, 2) := by decide +kernel
theorem dX10_span_38 : decode cX10_span 38 = .ok (.iconst 1, 1) := by decide +kernel
theorem dX10_span_39 : decode cX10_span 39 = .ok (.iload_n 3, 1) := by decide +kernel
theorem dX10_span_40 : decode cX10_span 40 = .ok (.iconst 3, 1) := by decide +kernel
theorem dX10_span_41 : decode cX10_span 41 = .ok (.iload 4, 2) := by decide +kernel
theorem dX10_span_43 : decode cX10_span 43 = .ok (.imul, 1) := by decide +kernel
theorem dX10_span_44 : decode cX10_span 44 = .ok (.invokevirtual 186, 3) := by decide +kernel
theorem dX10_span_47 : decode cX10_span 47 = .ok (.istore 6, 2) := by decide +kernel
theorem dX10_span_49 : decode cX10_span 49 = .ok (.iload 6, 2) := by decide +kernel
theorem dX10_span_51 : decode cX10_span 51 = .ok (.ifCond .ge 6, 3) := by decide +kernel
theorem dX10_span_54 : decode cX10_span 54 = .ok (.iload 6, 2) := by decide +kernel
theorem dX10_span_56 : decode cX10_span 56 = .ok (.ireturn, 1) := by decide +kernel
theorem dX10_span_57 : decode cX10_span 57 = .ok (.aload 5, 2) := by decide +kernel
theorem dX10_span_59 : decode cX10_span 59 = .ok (.iload_n 3, 1) := by decide +kernel
theorem dX10_span_60 : decode cX10_span 60 = .ok (.iconst 3, 1) := by decide +kernel
theorem dX10_span_61 : decode cX10_span 61 = .ok (.iload 4, 2) := by decide +kernel
theorem dX10_span_63 : decode cX10_span 63 = .ok (.imul, 1) := by decide +kernel
theorem dX10_span_64 : decode cX10_span 64 = .ok (.ldc2_w 190, 3) := by decide +kernel
theorem dX10_span_67 : decode cX10_span 67 = .ok (.invokevirtual 192, 3) := by decide +kernel
theorem dX10_span_70 : decode cX10_span 70 = .ok (.ifCond .ne 5, 3) := by decide +kernel
theorem dX10_span_73 : decode cX10_span 73 = .ok (.iconst (-1), 1) := by decide +kernel
theorem dX10_span_74 : decode cX10_span 74 = .ok (.ireturn, 1) := by decide +kernel
theorem dX10_span_75 : decode cX10_span 75 = .ok (.aload_n 0, 1) := by decide +kernel
theorem dX10_span_76 : decode cX10_span 76 = .ok (.getfield 10, 3) := by decide +kernel
theorem dX10_span_79 : decode cX10_span 79 = .ok (.iload_n 1, 1) := by decide +kernel
theorem dX10_span_80 : decode cX10_span 80 = .ok (.aload_n 0, 1) := by decide +kernel
theorem dX10_span_81 : decode cX10_span 81 = .ok (.getfield 69, 3) := by decide +kernel
theorem dX10_span_84 : decode cX10_span 84 = .ok (.invokevirtual 137, 3) := by decide +kernel
theorem dX10_span_87 : decode cX10_span 87 = .ok (.aload_n 0, 1) := by decide +kernel
theorem dX10_span_88 : decode cX10_span 88 = .ok (.getfield 10, 3) := by decide +kernel
theorem dX10_span_91 : decode cX10_span 91 = .ok (.iload_n 1, 1) := by decide +kernel
theorem dX10_span_92 : decode cX10_span 92 = .ok (.aload_n 0, 1) := by decide +kernel
theorem dX10_span_93 : decode cX10_span 93 = .ok (.getfield 73, 3) := by decide +kernel
theorem dX10_span_96 : decode cX10_span 96 = .ok (.invokevirtual 137, 3) := by decide +kernel
theorem dX10_span_99 : decode cX10_span 99 = .ok (.iconst 0, 1) := by decide +kernel
theorem dX10_span_100 : decode cX10_span 100 = .ok (.istore 7, 2) := by decide +kernel
theorem dX10_span_102 : decode cX10_span 102 = .ok (.iload 7, 2) := by decide +kernel
theorem dX10_span_104 : decode cX10_span 104 = .ok (.iload 4, 2) := by decide +kernel
theorem dX10_span_106 : decode cX10_span 106 = .ok (.if_icmp .ge 57, 3) := by decide +kernel
theorem dX10_span_109 : decode cX10_span 109 = .ok (.iconst 0, 1) := by decide +kernel
theorem dX10_span_110 : decode cX10_span 110 = .ok (.istore 8, 2) := by decide +kernel
theorem dX10_span_112 : decode cX10_span 112 = .ok (.iload 8, 2) := by decide +kernel
theorem dX10_span_114 : decode cX10_span 114 = .ok (.iconst 3, 1) := by decide +kernel
theorem dX10_span_115 : decode cX10_span 115 = .ok (.if_icmp .ge 31, 3) := by decide +kernel
theorem dX10_span_118 : decode cX10_span 118 = .ok (.aload_n 0, 1) := by decide +kernel
theorem dX10_span_119 : decode cX10_span 119 = .ok (.getfield 89, 3) := by decide +kernel
theorem dX10_span_122 : decode cX10_span 122 = .ok (.iload 8, 2) := by decide +kernel
theorem dX10_span_124 : decode cX10_span 124 = .ok (.aload 5, 2) := by decide +kernel
theorem dX10_span_126 : decode cX10_span 126 = .ok (.getfield 195, 3) := by decide +kernel
theorem dX10_span_129 : decode cX10_span 129 = .ok (.iload_n 3, 1) := by decide +kernel
theorem dX10_span_130 : decode cX10_span 130 = .ok (.iconst 3, 1) := by decide +kernel
theorem dX10_span_131 : decode cX10_span 131 = .ok (.iload 7, 2) := by decide +kernel
theorem dX10_span_133 : decode cX10_span 133 = .ok (.imul, 1) := by decide +kernel
theorem dX10_span_134 : decode cX10_span 134 = .ok (.iadd, 1) := by decide +kernel
theorem dX10_span_135 : decode cX10_span 135 = .ok (.iload 8, 2) := by decide +kernel
theorem dX10_span_137 : decode cX10_span 137 = .ok (.iadd, 1) := by decide +kernel
theorem dX10_span_138 : decode cX10_span 138 = .ok (.laload, 1) := by decide +kernel
theorem dX10_span_139 : decode cX10_span 139 = .ok (.lastore, 1) := by decide +kernel
theorem dX10_span_140 : decode cX10_span 140 = .ok (.iinc 8 1, 3) := by decide +kernel
theorem dX10_span_143 : decode cX10_span 143 = .ok (.goto (-31), 3) := by decide +kernel
theorem dX10_span_146 : decode cX10_span 146 = .ok (.aload_n 0, 1) := by decide +kernel
theorem dX10_span_147 : decode cX10_span 147 = .ok (.getfield 73, 3) := by decide +kernel
theorem dX10_span_150 : decode cX10_span 150 = .ok (.aload_n 0, 1) := by decide +kernel
theorem dX10_span_151 : decode cX10_span 151 = .ok (.getfield 89, 3) := by decide +kernel
theorem dX10_span_154 : decode cX10_span 154 = .ok (.invokevirtual 198, 3) := by decide +kernel
theorem dX10_span_157 : decode cX10_span 157 = .ok (.iinc 7 1, 3) := by decide +kernel
theorem dX10_span_160 : decode cX10_span 160 = .ok (.goto (-58), 3) := by decide +kernel
theorem dX10_span_163 : decode cX10_span 163 = .ok (.aload_n 0, 1) := by decide +kernel
theorem dX10_span_164 : decode cX10_span 164 = .ok (.getfield 69, 3) := by decide +kernel
theorem dX10_span_167 : decode cX10_span 167 = .ok (.aload_n 0, 1) := by decide +kernel
theorem dX10_span_168 : decode cX10_span 168 = .ok (.getfield 73, 3) := by decide +kernel
theorem dX10_span_171 : decode cX10_span 171 = .ok (.invokevirtual 201, 3) := by decide +kernel
theorem dX10_span_174 : decode cX10_span 174 = .ok (.l2i, 1) := by decide +kernel
theorem dX10_span_175 : decode cX10_span 175 = .ok (.ireturn, 1) := by decide +kernel
theorem dX10_map_0 : decode cX10_map 0 = .ok (.iload_n 1, 1) := by decide +kernel
theorem dX10_map_1 : decode cX10_map 1 = .ok (.invokestatic 205, 3) := by decide +kernel
theorem dX10_map_4 : decode cX10_map 4 = .ok (.ifCond .eq 17, 3) := by decide +kernel
theorem dX10_map_7 : decode cX10_map 7 = .ok (.iload_n 2, 1) := by decide +kernel
theorem dX10_map_8 : decode cX10_map 8 = .ok (.invokestatic 98, 3) := by decide +kernel
theorem dX10_map_11 : decode cX10_map 11 = .ok (.ifCond .eq 10, 3) := by decide +kernel
theorem dX10_map_14 : decode cX10_map 14 = .ok (.iload_n 3, 1) := by decide +kernel
theorem dX10_map_15 : decode cX10_map 15 = .ok (.invokestatic 98, 3) := by decide +kernel
theorem dX10_map_18 : decode cX10_map 18 = .ok (.ifCond .ne 5, 3) := by decide +kernel
theorem dX10_map_21 : decode cX10_map 21 = .ok (.iconst (-1), 1) := by decide +kernel
theorem dX10_map_22 : decode cX10_map 22 = .ok (.ireturn, 1) := by decide +kernel
theorem dX10_map_23 : decode cX10_map 23 = .ok (.aload_n 0, 1) := by decide +kernel
theorem dX10_map_24 : decode cX10_map 24 = .ok (.getfield 26, 3) := by decide +kernel
theorem dX10_map_27 : decode cX10_map 27 = .ok (.aload_n 0, 1) := by decide +kernel
theorem dX10_map_28 : decode cX10_map 28 = .ok (.getfield 10, 3) := by decide +kernel
theorem dX10_map_31 : decode cX10_map 31 = .ok (.invokevirtual 102, 3) := by decide +kernel
theorem dX10_map_34 : decode cX10_map 34 = .ok (.aload_n 0, 1) := by decide +kernel
theorem dX10_map_35 : decode cX10_map 35 = .ok (.getfield 10, 3) := by decide +kernel
theorem dX10_map_38 : decode cX10_map 38 = .ok (.iload_n 1, 1) := by decide +kernel
theorem dX10_map_39 : decode cX10_map 39 = .ok (.iload_n 2, 1) := by decide +kernel
theorem dX10_map_40 : decode cX10_map 40 = .ok (.iload_n 3, 1) := by decide +kernel
theorem dX10_map_41 : decode cX10_map 41 = .ok (.invokevirtual 208, 3) := by decide +kernel
theorem dX10_map_44 : decode cX10_map 44 = .ok (.iconst 1, 1) := by decide +kernel
theorem dX10_map_45 : decode cX10_map 45 = .ok (.ireturn, 1) := by decide +kernel
theorem dX10_entry_0 : decode cX10_entry 0 = .ok (.aload_n 0, 1) := by decide +kernel
theorem dX10_entry_1 : decode cX10_entry 1 = .ok (.iload_n 1, 1) := by decide +kernel
theorem dX10_entry_2 : decode cX10_entry 2 = .ok (.iload_n 2, 1) := by decide +kernel
theorem dX10_entry_3 : decode cX10_entry 3 = .ok (.iload_n 3, 1) := by decide +kernel
theorem dX10_entry_4 : decode cX10_entry 4 = .ok (.invokevirtual 212, 3) := by decide +kernel
theorem dX10_entry_7 : decode cX10_entry 7 = .ok (.ifCond .eq 17, 3) := by decide +kernel
theorem dX10_entry_10 : decode cX10_entry 10 = .ok (.iload 4, 2) := by decide +kernel
theorem dX10_entry_12 : decode cX10_entry 12 = .ok (.bipush (-9), 2) := by decide +kernel
theorem dX10_entry_14 : decode cX10_entry 14 = .ok (.if_icmp .lt 10, 3) := by decide +kernel
theorem dX10_entry_17 : decode cX10_entry 17 = .ok (.iload 4, 2) := by decide +kernel
theorem dX10_entry_19 : decode cX10_entry 19 = .ok (.bipush 9, 2) := by decide +kernel
theorem dX10_entry_21 : decode cX10_entry 21 = .ok (.if_icmp .le 5, 3) := by decide +kernel
theorem dX10_entry_24 : decode cX10_entry 24 = .ok (.iconst (-1), 1) := by decide +kernel
theorem dX10_entry_25 : decode cX10_entry 25 = .ok (.ireturn, 1) := by decide +kernel
theorem dX10_entry_26 : decode cX10_entry 26 = .ok (.aload_n 0, 1) := by decide +kernel
theorem dX10_entry_27 : decode cX10_entry 27 = .ok (.getfield 26, 3) := by decide +kernel
theorem dX10_entry_30 : decode cX10_entry 30 = .ok (.aload_n 0, 1) := by decide +kernel
theorem dX10_entry_31 : decode cX10_entry 31 = .ok (.getfield 10, 3) := by decide +kernel
theorem dX10_entry_34 : decode cX10_entry 34 = .ok (.invokevirtual 102, 3) := by decide +kernel
theorem dX10_entry_37 : decode cX10_entry 37 = .ok (.bipush 9, 2) := by decide +kernel
theorem dX10_entry_39 : decode cX10_entry 39 = .ok (.iload_n 1, 1) := by decide +kernel
theorem dX10_entry_40 : decode cX10_entry 40 = .ok (.imul, 1) := by decide +kernel
theorem dX10_entry_41 : decode cX10_entry 41 = .ok (.iconst 3, 1) := by decide +kernel
theorem dX10_entry_42 : decode cX10_entry 42 = .ok (.iload_n 2, 1) := by decide +kernel
theorem dX10_entry_43 : decode cX10_entry 43 = .ok (.imul, 1) := by decide +kernel
theorem dX10_entry_44 : decode cX10_entry 44 = .ok (.iadd, 1) := by decide +kernel
theorem dX10_entry_45 : decode cX10_entry 45 = .ok (.iload_n 3, 1) := by decide +kernel
theorem dX10_entry_46 : decode cX10_entry 46 = .ok (.iadd, 1) := by decide +kernel
theorem dX10_entry_47 : decode cX10_entry 47 = .ok (.istore 5, 2) := by decide +kernel
theorem dX10_entry_49 : decode cX10_entry 49 = .ok (.aload_n 0, 1) := by decide +kernel
theorem dX10_entry_50 : decode cX10_entry 50 = .ok (.getfield 10, 3) := by decide +kernel
theorem dX10_entry_53 : decode cX10_entry 53 = .ok (.getfield 215, 3) := by decide +kernel
theorem dX10_entry_56 : decode cX10_entry 56 = .ok (.iload 5, 2) := by decide +kernel
theorem dX10_entry_58 : decode cX10_entry 58 = .ok (.iaload, 1) := by decide +kernel
theorem dX10_entry_59 : decode cX10_entry 59 = .ok (.istore 6, 2) := by decide +kernel
theorem dX10_entry_61 : decode cX10_entry 61 = .ok (.aload_n 0, 1) := by decide +kernel
theorem dX10_entry_62 : decode cX10_entry 62 = .ok (.getfield 10, 3) := by decide +kernel
theorem dX10_entry_65 : decode cX10_entry 65 = .ok (.getfield 215, 3) := by decide +kernel
theorem dX10_entry_68 : decode cX10_entry 68 = .ok (.iload 5, 2) := by decide +kernel
theorem dX10_entry_70 : decode cX10_entry 70 = .ok (.iload 4, 2) := by decide +kernel
theorem dX10_entry_72 : decode cX10_entry 72 = .ok (.iastore, 1) := by decide +kernel
theorem dX10_entry_73 : decode cX10_entry 73 = .ok (.sipush 1000, 3) := by decide +kernel
theorem dX10_entry_76 : decode cX10_entry 76 = .ok (.iload 6, 2) := by decide +kernel
theorem dX10_entry_78 : decode cX10_entry 78 = .ok (.iadd, 1) := by decide +kernel
theorem dX10_entry_79 : decode cX10_entry 79 = .ok (.ireturn, 1) := by decide +kernel
theorem dX10_at_0 : decode cX10_at 0 = .ok (.aload_n 0, 1) := by decide +kernel
theorem dX10_at_1 : decode cX10_at 1 = .ok (.iload_n 1, 1) := by decide +kernel
theorem dX10_at_2 : decode cX10_at 2 = .ok (.iload_n 2, 1) := by decide +kernel
theorem dX10_at_3 : decode cX10_at 3 = .ok (.iload_n 3, 1) := by decide +kernel
theorem dX10_at_4 : decode cX10_at 4 = .ok (.invokevirtual 212, 3) := by decide +kernel
theorem dX10_at_7 : decode cX10_at 7 = .ok (.ifCond .ne 5, 3) := by decide +kernel
theorem dX10_at_10 : decode cX10_at 10 = .ok (.iconst (-1), 1) := by decide +kernel
theorem dX10_at_11 : decode cX10_at 11 = .ok (.ireturn, 1) := by decide +kernel
theorem dX10_at_12 : decode cX10_at 12 = .ok (.sipush 1000, 3) := by decide +kernel
theorem dX10_at_15 : decode cX10_at 15 = .ok (.aload_n 0, 1) := by decide +kernel
theorem dX10_at_16 : decode cX10_at 16 = .ok (.getfield 10, 3) := by decide +kernel
theorem dX10_at_19 : decode cX10_at 19 = .ok (.getfield 215, 3) := by decide +kernel
theorem dX10_at_22 : decode cX10_at 22 = .ok (.bipush 9, 2) := by decide +kernel
theorem dX10_at_24 : decode cX10_at 24 = .ok (.iload_n 1, 1) := by decide +kernel
theorem dX10_at_25 : decode cX10_at 25 = .ok (.imul, 1) := by decide +kernel
theorem dX10_at_26 : decode cX10_at 26 = .ok (.iconst 3, 1) := by decide +kernel
theorem dX10_at_27 : decode cX10_at 27 = .ok (.iload_n 2, 1) := by decide +kernel
theorem dX10_at_28 : decode cX10_at 28 = .ok (.imul, 1) := by decide +kernel
theorem dX10_at_29 : decode cX10_at 29 = .ok (.iadd, 1) := by decide +kernel
theorem dX10_at_30 : decode cX10_at 30 = .ok (.iload_n 3, 1) := by decide +kernel
theorem dX10_at_31 : decode cX10_at 31 = .ok (.iadd, 1) := by decide +kernel
theorem dX10_at_32 : decode cX10_at 32 = .ok (.iaload, 1) := by decide +kernel
theorem dX10_at_33 : decode cX10_at 33 = .ok (.iadd, 1) := by decide +kernel
theorem dX10_at_34 : decode cX10_at 34 = .ok (.ireturn, 1) := by decide +kernel
theorem dX10_mapIs_0 : decode cX10_mapIs 0 = .ok (.aload_n 0, 1) := by decide +kernel
theorem dX10_mapIs_1 : decode cX10_mapIs 1 = .ok (.iload_n 1, 1) := by decide +kernel
theorem dX10_mapIs_2 : decode cX10_mapIs 2 = .ok (.invokevirtual 218, 3) := by decide +kernel
theorem dX10_mapIs_5 : decode cX10_mapIs 5 = .ok (.ifCond .eq 12, 3) := by decide +kernel
theorem dX10_mapIs_8 : decode cX10_mapIs 8 = .ok (.iload_n 2, 1) := by decide +kernel
theorem dX10_mapIs_9 : decode cX10_mapIs 9 = .ok (.ifCond .lt 8, 3) := by decide +kernel
theorem dX10_mapIs_12 : decode cX10_mapIs 12 = .ok (.iload_n 2, 1) := by decide +kernel
theorem dX10_mapIs_13 : decode cX10_mapIs 13 = .ok (.iconst 4, 1) := by decide +kernel
theorem dX10_mapIs_14 : decode cX10_mapIs 14 = .ok (.if_icmp .le 5, 3) := by decide +kernel
theorem dX10_mapIs_17 : decode cX10_mapIs 17 = .ok (.iconst (-1), 1) := by decide +kernel
theorem dX10_mapIs_18 : decode cX10_mapIs 18 = .ok (.ireturn, 1) := by decide +kernel
theorem dX10_mapIs_19 : decode cX10_mapIs 19 = .ok (.iload_n 2, 1) := by decide +kernel
theorem dX10_mapIs_20 : decode cX10_mapIs 20 = .ok (.ifCond .ne 13, 3) := by decide +kernel
theorem dX10_mapIs_23 : decode cX10_mapIs 23 = .ok (.aload_n 0, 1) := by decide +kernel
theorem dX10_mapIs_24 : decode cX10_mapIs 24 = .ok (.getfield 10, 3) := by decide +kernel
theorem dX10_mapIs_27 : decode cX10_mapIs 27 = .ok (.getfield 221, 3) := by decide +kernel
theorem dX10_mapIs_30 : decode cX10_mapIs 30 = .ok (.iload_n 1, 1) := by decide +kernel
theorem dX10_mapIs_31 : decode cX10_mapIs 31 = .ok (.iaload, 1) := by decide +kernel
theorem dX10_mapIs_32 : decode cX10_mapIs 32 = .ok (.ireturn, 1) := by decide +kernel
theorem dX10_mapIs_33 : decode cX10_mapIs 33 = .ok (.iload_n 2, 1) := by decide +kernel
theorem dX10_mapIs_34 : decode cX10_mapIs 34 = .ok (.iconst 1, 1) := by decide +kernel
theorem dX10_mapIs_35 : decode cX10_mapIs 35 = .ok (.if_icmp .ne 13, 3) := by decide +kernel
theorem dX10_mapIs_38 : decode cX10_mapIs 38 = .ok (.aload_n 0, 1) := by decide +kernel
theorem dX10_mapIs_39 : decode cX10_mapIs 39 = .ok (.getfield 10, 3) := by decide +kernel
theorem dX10_mapIs_42 : decode cX10_mapIs 42 = .ok (.getfield 224, 3) := by decide +kernel
theorem dX10_mapIs_45 : decode cX10_mapIs 45 = .ok (.iload_n 1, 1) := by decide +kernel
theorem dX10_mapIs_46 : decode cX10_mapIs 46 = .ok (.iaload, 1) := by decide +kernel
theorem dX10_mapIs_47 : decode cX10_mapIs 47 = .ok (.ireturn, 1) := by decide +kernel
theorem dX10_mapIs_48 : decode cX10_mapIs 48 = .ok (.aload_n 0, 1) := by decide +kernel
theorem dX10_mapIs_49 : decode cX10_mapIs 49 = .ok (.getfield 59, 3) := by decide +kernel
theorem dX10_mapIs_52 : decode cX10_mapIs 52 = .ok (.aload_n 0, 1) := by decide +kernel
theorem dX10_mapIs_53 : decode cX10_mapIs 53 = .ok (.getfield 10, 3) := by decide +kernel
theorem dX10_mapIs_56 : decode cX10_mapIs 56 = .ok (.iload_n 1, 1) := by decide +kernel
theorem dX10_mapIs_57 : decode cX10_mapIs 57 = .ok (.invokevirtual 227, 3) := by decide +kernel
theorem dX10_mapIs_60 : decode cX10_mapIs 60 = .ok (.istore_n 3, 1) := by decide +kernel
theorem dX10_mapIs_61 : decode cX10_mapIs 61 = .ok (.iload_n 2, 1) := by decide +kernel
theorem dX10_mapIs_62 : decode cX10_mapIs 62 = .ok (.iconst 2, 1) := by decide +kernel
theorem dX10_mapIs_63 : decode cX10_mapIs 63 = .ok (.if_icmp .ne 13, 3) := by decide +kernel
theorem dX10_mapIs_66 : decode cX10_mapIs 66 = .ok (.iload_n 3, 1) := by decide +kernel
theorem dX10_mapIs_67 : decode cX10_mapIs 67 = .ok (.ifCond .eq 7, 3) := by decide +kernel
theorem dX10_mapIs_70 : decode cX10_mapIs 70 = .ok (.iconst 1, 1) := by decide +kernel
theorem dX10_mapIs_71 : decode cX10_mapIs 71 = .ok (.goto 4, 3) := by decide +kernel
theorem dX10_mapIs_74 : decode cX10_mapIs 74 = .ok (.iconst 0, 1) := by decide +kernel
theorem dX10_mapIs_75 : decode cX10_mapIs 75 = .ok (.ireturn, 1) := by decide +kernel
theorem dX10_mapIs_76 : decode cX10_mapIs 76 = .ok (.iload_n 3, 1) := by decide +kernel
theorem dX10_mapIs_77 : decode cX10_mapIs 77 = .ok (.ifCond .ne 6, 3) := by decide +kernel
theorem dX10_mapIs_80 : decode cX10_mapIs 80 = .ok (.bipush (-4), 2) := by decide +kernel
theorem dX10_mapIs_82 : decode cX10_mapIs 82 = .ok (.ireturn, 1) := by decide +kernel
theorem dX10_mapIs_83 : decode cX10_mapIs 83 = .ok (.aload_n 0, 1) := by decide +kernel
theorem dX10_mapIs_84 : decode cX10_mapIs 84 = .ok (.getfield 59, 3) := by decide +kernel
theorem dX10_mapIs_87 : decode cX10_mapIs 87 = .ok (.aload_n 0, 1) := by decide +kernel
theorem dX10_mapIs_88 : decode cX10_mapIs 88 = .ok (.getfield 10, 3) := by decide +kernel
theorem dX10_mapIs_91 : decode cX10_mapIs 91 = .ok (.iload_n 1, 1) := by decide +kernel
theorem dX10_mapIs_92 : decode cX10_mapIs 92 = .ok (.invokevirtual 231, 3) := by decide +kernel
theorem dX10_mapIs_95 : decode cX10_mapIs 95 = .ok (.iload_n 2, 1) := by decide +kernel
theorem dX10_mapIs_96 : decode cX10_mapIs 96 = .ok (.iconst 3, 1) := by decide +kernel
theorem dX10_mapIs_97 : decode cX10_mapIs 97 = .ok (.if_icmp .ne 13, 3) := by decide +kernel
theorem dX10_mapIs_100 : decode cX10_mapIs 100 = .ok (.aload_n 0, 1) := by decide +kernel
theorem dX10_mapIs_101 : decode cX10_mapIs 101 = .ok (.getfield 59, 3) := by decide +kernel
theorem dX10_mapIs_104 : decode cX10_mapIs 104 = .ok (.invokevirtual 235, 3) := by decide +kernel
theorem dX10_mapIs_107 : decode cX10_mapIs 107 = .ok (.goto 10, 3) := by decide +kernel
theorem dX10_mapIs_110 : decode cX10_mapIs 110 = .ok (.aload_n 0, 1) := by decide +kernel
theorem dX10_mapIs_111 : decode cX10_mapIs 111 = .ok (.getfield 59, 3) := by decide +kernel
theorem dX10_mapIs_114 : decode cX10_mapIs 114 = .ok (.invokevirtual 239, 3) := by decide +kernel
theorem dX10_mapIs_117 : decode cX10_mapIs 117 = .ok (.istore 4, 2) := by decide +kernel
theorem dX10_mapIs_119 : decode cX10_mapIs 119 = .ok (.iload 4, 2) := by decide +kernel
theorem dX10_mapIs_121 : decode cX10_mapIs 121 = .ok (.ifCond .eq 7, 3) := by decide +kernel
theorem dX10_mapIs_124 : decode cX10_mapIs 124 = .ok (.iconst 1, 1) := by decide +kernel
theorem dX10_mapIs_125 : decode cX10_mapIs 125 = .ok (.goto 4, 3) := by decide +kernel
theorem dX10_mapIs_128 : decode cX10_mapIs 128 = .ok (.iconst 0, 1) := by decide +kernel
theorem dX10_mapIs_129 : decode cX10_mapIs 129 = .ok (.ireturn, 1) := by decide +kernel
theorem dX10_image_0 : decode cX10_image 0 = .ok (.aload_n 0, 1) := by decide +kernel
theorem dX10_image_1 : decode cX10_image 1 = .ok (.iload_n 1, 1) := by decide +kernel
theorem dX10_image_2 : decode cX10_image 2 = .ok (.invokevirtual 218, 3) := by decide +kernel
theorem dX10_image_5 : decode cX10_image 5 = .ok (.ifCond .eq 31, 3) := by decide +kernel
theorem dX10_image_8 : decode cX10_image 8 = .ok (.iload_n 2, 1) := by decide +kernel
theorem dX10_image_9 : decode cX10_image 9 = .ok (.iload_n 3, 1) := by decide +kernel
theorem dX10_image_10 : decode cX10_image 10 = .ok (.iload 4, 2) := by decide +kernel
theorem dX10_image_12 : decode cX10_image 12 = .ok (.invokestatic 156, 3) := by decide +kernel
theorem dX10_image_15 : decode cX10_image 15 = .ok (.ifCond .eq 21, 3) := by decide +kernel
theorem dX10_image_18 : decode cX10_image 18 = .ok (.aload_n 0, 1) := by decide +kernel
theorem dX10_image_19 : decode cX10_image 19 = .ok (.aload_n 0, 1) := by decide +kernel
theorem dX10_image_20 : decode cX10_image 20 = .ok (.getfield 10, 3) := by decide +kernel
theorem dX10_image_23 : decode cX10_image 23 = .ok (.getfield 224, 3) := by decide +kernel
theorem dX10_image_26 : decode cX10_image 26 = .ok (.iload_n 1, 1) := by decide +kernel
theorem dX10_image_27 : decode cX10_image 27 = .ok (.iaload, 1) := by decide +kernel
theorem dX10_image_28 : decode cX10_image 28 = .ok (.iload 5, 2) := by decide +kernel
theorem dX10_image_30 : decode cX10_image 30 = .ok (.invokevirtual 145, 3) := by decide +kernel
theorem dX10_image_33 : decode cX10_image 33 = .ok (.ifCond .ne 8, 3) := by decide +kernel
theorem dX10_image_36 : decode cX10_image 36 = .ok (.iconst (-1), 1) := by decide +kernel
theorem dX10_image_37 : decode cX10_image 37 = .ok (.invokestatic 160, 3) := by decide +kernel
theorem dX10_image_40 : decode cX10_image 40 = .ok (.lreturn, 1) := by decide +kernel
theorem dX10_image_41 : decode cX10_image 41 = .ok (.aload_n 0, 1) := by decide +kernel
theorem dX10_image_42 : decode cX10_image 42 = .ok (.getfield 59, 3) := by decide +kernel
theorem dX10_image_45 : decode cX10_image 45 = .ok (.aload_n 0, 1) := by decide +kernel
theorem dX10_image_46 : decode cX10_image 46 = .ok (.getfield 10, 3) := by decide +kernel
theorem dX10_image_49 : decode cX10_image 49 = .ok (.iload_n 1, 1) := by decide +kernel
theorem dX10_image_50 : decode cX10_image 50 = .ok (.invokevirtual 227, 3) := by decide +kernel
theorem dX10_image_53 : decode cX10_image 53 = .ok (.ifCond .ne 9, 3) := by decide +kernel
theorem dX10_image_56 : decode cX10_image 56 = .ok (.bipush (-4), 2) := by decide +kernel
theorem dX10_image_58 : decode cX10_image 58 = .ok (.invokestatic 160, 3) := by decide +kernel
theorem dX10_image_61 : decode cX10_image 61 = .ok (.lreturn, 1) := by decide +kernel
theorem dX10_image_62 : decode cX10_image 62 = .ok (.aload_n 0, 1) := by decide +kernel
theorem dX10_image_63 : decode cX10_image 63 = .ok (.aload_n 0, 1) := by decide +kernel
theorem dX10_image_64 : decode cX10_image 64 = .ok (.getfield 10, 3) := by decide +kernel
theorem dX10_image_67 : decode cX10_image 67 = .ok (.getfield 221, 3) := by decide +kernel
theorem dX10_image_70 : decode cX10_image 70 = .ok (.iload_n 1, 1) := by decide +kernel
theorem dX10_image_71 : decode cX10_image 71 = .ok (.iaload, 1) := by decide +kernel
theorem dX10_image_72 : decode cX10_image 72 = .ok (.iload_n 2, 1) := by decide +kernel
theorem dX10_image_73 : decode cX10_image 73 = .ok (.iload_n 3, 1) := by decide +kernel
theorem dX10_image_74 : decode cX10_image 74 = .ok (.iload 4, 2) := by decide +kernel
theorem dX10_image_76 : decode cX10_image 76 = .ok (.invokevirtual 121, 3) := by decide +kernel
theorem dX10_image_79 : decode cX10_image 79 = .ok (.aload_n 0, 1) := by decide +kernel
theorem dX10_image_80 : decode cX10_image 80 = .ok (.getfield 10, 3) := by decide +kernel
theorem dX10_image_83 : decode cX10_image 83 = .ok (.iload_n 1, 1) := by decide +kernel
theorem dX10_image_84 : decode cX10_image 84 = .ok (.aload_n 0, 1) := by decide +kernel
theorem dX10_image_85 : decode cX10_image 85 = .ok (.getfield 89, 3) := by decide +kernel
theorem dX10_image_88 : decode cX10_image 88 = .ok (.aload_n 0, 1) := by decide +kernel
theorem dX10_image_89 : decode cX10_image 89 = .ok (.getfield 93, 3) := by decide +kernel
theorem dX10_image_92 : decode cX10_image 92 = .ok (.invokevirtual 242, 3) := by decide +kernel
theorem dX10_image_95 : decode cX10_image 95 = .ok (.aload_n 0, 1) := by decide +kernel
theorem dX10_image_96 : decode cX10_image 96 = .ok (.getfield 59, 3) := by decide +kernel
theorem dX10_image_99 : decode cX10_image 99 = .ok (.getfield 246, 3) := by decide +kernel
theorem dX10_image_102 : decode cX10_image 102 = .ok (.aload_n 0, 1) := by decide +kernel
theorem dX10_image_103 : decode cX10_image 103 = .ok (.getfield 93, 3) := by decide +kernel
theorem dX10_image_106 : decode cX10_image 106 = .ok (.invokevirtual 163, 3) := by decide +kernel
theorem dX10_image_109 : decode cX10_image 109 = .ok (.aload_n 0, 1) := by decide +kernel
theorem dX10_image_110 : decode cX10_image 110 = .ok (.getfield 93, 3) := by decide +kernel
theorem dX10_image_113 : decode cX10_image 113 = .ok (.iload 5, 2) := by decide +kernel
theorem dX10_image_115 : decode cX10_image 115 = .ok (.laload, 1) := by decide +kernel
theorem dX10_image_116 : decode cX10_image 116 = .ok (.lreturn, 1) := by decide +kernel
theorem dX10_part_0 : decode cX10_part 0 = .ok (.aload_n 0, 1) := by decide +kernel
theorem dX10_part_1 : decode cX10_part 1 = .ok (.iload_n 1, 1) := by decide +kernel
theorem dX10_part_2 : decode cX10_part 2 = .ok (.invokevirtual 218, 3) := by decide +kernel
theorem dX10_part_5 : decode cX10_part 5 = .ok (.ifCond .eq 17, 3) := by decide +kernel
theorem dX10_part_8 : decode cX10_part 8 = .ok (.iload_n 2, 1) := by decide +kernel
theorem dX10_part_9 : decode cX10_part 9 = .ok (.ifCond .lt 13, 3) := by decide +kernel
theorem dX10_part_12 : decode cX10_part 12 = .ok (.iload_n 2, 1) := by decide +kernel
theorem dX10_part_13 : decode cX10_part 13 = .ok (.iconst 2, 1) := by decide +kernel
theorem dX10_part_14 : decode cX10_part 14 = .ok (.if_icmp .gt 8, 3) := by decide +kernel
theorem dX10_part_17 : decode cX10_part 17 = .ok (.iload_n 3, 1) := by decide +kernel
theorem dX10_part_18 : decode cX10_part 18 = .ok (.iconst (-1), 1) := by decide +kernel
theorem dX10_part_19 : decode cX10_part 19 = .ok (.if_icmp .ge 5, 3) := by decide +kernel
theorem dX10_part_22 : decode cX10_part 22 = .ok (.iconst (-1), 1) := by decide +kernel
theorem dX10_part_23 : decode cX10_part 23 = .ok (.ireturn, 1) := by decide +kernel
theorem dX10_part_24 : decode cX10_part 24 = .ok (.aload_n 0, 1) := by decide +kernel
theorem dX10_part_25 : decode cX10_part 25 = .ok (.getfield 59, 3) := by decide +kernel
theorem dX10_part_28 : decode cX10_part 28 = .ok (.aload_n 0, 1) := by decide +kernel
theorem dX10_part_29 : decode cX10_part 29 = .ok (.getfield 10, 3) := by decide +kernel
theorem dX10_part_32 : decode cX10_part 32 = .ok (.iload_n 1, 1) := by decide +kernel
theorem dX10_part_33 : decode cX10_part 33 = .ok (.invokevirtual 227, 3) := by decide +kernel
theorem dX10_part_36 : decode cX10_part 36 = .ok (.ifCond .ne 6, 3) := by decide +kernel
theorem dX10_part_39 : decode cX10_part 39 = .ok (.bipush (-4), 2) := by decide +kernel
theorem dX10_part_41 : decode cX10_part 41 = .ok (.ireturn, 1) := by decide +kernel
theorem dX10_part_42 : decode cX10_part 42 = .ok (.aload_n 0, 1) := by decide +kernel
theorem dX10_part_43 : decode cX10_part 43 = .ok (.getfield 59, 3) := by decide +kernel
theorem dX10_part_46 : decode cX10_part 46 = .ok (.aload_n 0, 1) := by decide +kernel
theorem dX10_part_47 : decode cX10_part 47 = .ok (.getfield 10, 3) := by decide +kernel
theorem dX10_part_50 : decode cX10_part 50 = .ok (.iload_n 1, 1) := by decide +kernel
theorem dX10_part_51 : decode cX10_part 51 = .ok (.invokevirtual 231, 3) := by decide +kernel
theorem dX10_part_54 : decode cX10_part 54 = .ok (.aload_n 0, 1) := by decide +kernel
theorem dX10_part_55 : decode cX10_part 55 = .ok (.getfield 59, 3) := by decide +kernel
theorem dX10_part_58 : decode cX10_part 58 = .ok (.iload_n 2, 1) := by decide +kernel
theorem dX10_part_59 : decode cX10_part 59 = .ok (.aload_n 0, 1) := by decide +kernel
theorem dX10_part_60 : decode cX10_part 60 = .ok (.getfield 79, 3) := by decide +kernel
theorem dX10_part_63 : decode cX10_part 63 = .ok (.invokevirtual 249, 3) := by decide +kernel
theorem dX10_part_66 : decode cX10_part 66 = .ok (.aload_n 0, 1) := by decide +kernel
theorem dX10_part_67 : decode cX10_part 67 = .ok (.getfield 79, 3) := by decide +kernel
theorem dX10_part_70 : decode cX10_part 70 = .ok (.iload_n 3, 1) := by decide +kernel
theorem dX10_part_71 : decode cX10_part 71 = .ok (.invokestatic 179, 3) := by decide +kernel
theorem dX10_part_74 : decode cX10_part 74 = .ok (.ireturn, 1) := by decide +kernel
theorem dX10_whence_0 : decode cX10_whence 0 = .ok (.aload_n 0, 1) := by decide +kernel
theorem dX10_whence_1 : decode cX10_whence 1 = .ok (.iload_n 1, 1) := by decide +kernel
theorem dX10_whence_2 : decode cX10_whence 2 = .ok (.invokevirtual 218, 3) := by decide +kernel
theorem dX10_whence_5 : decode cX10_whence 5 = .ok (.ifCond .eq 31, 3) := by decide +kernel
theorem dX10_whence_8 : decode cX10_whence 8 = .ok (.iload_n 2, 1) := by decide +kernel
theorem dX10_whence_9 : decode cX10_whence 9 = .ok (.iload_n 3, 1) := by decide +kernel
theorem dX10_whence_10 : decode cX10_whence 10 = .ok (.iload 4, 2) := by decide +kernel
theorem dX10_whence_12 : decode cX10_whence 12 = .ok (.invokestatic 156, 3) := by decide +kernel
theorem dX10_whence_15 : decode cX10_whence 15 = .ok (.ifCond .eq 21, 3) := by decide +kernel
theorem dX10_whence_18 : decode cX10_whence 18 = .ok (.aload_n 0, 1) := by decide +kernel
theorem dX10_whence_19 : decode cX10_whence 19 = .ok (.aload_n 0, 1) := by decide +kernel
theorem dX10_whence_20 : decode cX10_whence 20 = .ok (.getfield 10, 3) := by decide +kernel
theorem dX10_whence_23 : decode cX10_whence 23 = .ok (.getfield 221, 3) := by decide +kernel
theorem dX10_whence_26 : decode cX10_whence 26 = .ok (.iload_n 1, 1) := by decide +kernel
theorem dX10_whence_27 : decode cX10_whence 27 = .ok (.iaload, 1) := by decide +kernel
theorem dX10_whence_28 : decode cX10_whence 28 = .ok (.iload 5, 2) := by decide +kernel
theorem dX10_whence_30 : decode cX10_whence 30 = .ok (.invokevirtual 145, 3) := by decide +kernel
theorem dX10_whence_33 : decode cX10_whence 33 = .ok (.ifCond .ne 8, 3) := by decide +kernel
theorem dX10_whence_36 : decode cX10_whence 36 = .ok (.iconst (-1), 1) := by decide +kernel
theorem dX10_whence_37 : decode cX10_whence 37 = .ok (.invokestatic 160, 3) := by decide +kernel
theorem dX10_whence_40 : decode cX10_whence 40 = .ok (.lreturn, 1) := by decide +kernel
theorem dX10_whence_41 : decode cX10_whence 41 = .ok (.aload_n 0, 1) := by decide +kernel
theorem dX10_whence_42 : decode cX10_whence 42 = .ok (.getfield 59, 3) := by decide +kernel
theorem dX10_whence_45 : decode cX10_whence 45 = .ok (.aload_n 0, 1) := by decide +kernel
theorem dX10_whence_46 : decode cX10_whence 46 = .ok (.getfield 10, 3) := by decide +kernel
theorem dX10_whence_49 : decode cX10_whence 49 = .ok (.iload_n 1, 1) := by decide +kernel
theorem dX10_whence_50 : decode cX10_whence 50 = .ok (.invokevirtual 227, 3) := by decide +kernel
theorem dX10_whence_53 : decode cX10_whence 53 = .ok (.ifCond .ne 9, 3) := by decide +kernel
theorem dX10_whence_56 : decode cX10_whence 56 = .ok (.bipush (-4), 2) := by decide +kernel
theorem dX10_whence_58 : decode cX10_whence 58 = .ok (.invokestatic 160, 3) := by decide +kernel
theorem dX10_whence_61 : decode cX10_whence 61 = .ok (.lreturn, 1) := by decide +kernel
theorem dX10_whence_62 : decode cX10_whence 62 = .ok (.aload_n 0, 1) := by decide +kernel
theorem dX10_whence_63 : decode cX10_whence 63 = .ok (.getfield 59, 3) := by decide +kernel
theorem dX10_whence_66 : decode cX10_whence 66 = .ok (.aload_n 0, 1) := by decide +kernel
theorem dX10_whence_67 : decode cX10_whence 67 = .ok (.getfield 10, 3) := by decide +kernel
theorem dX10_whence_70 : decode cX10_whence 70 = .ok (.iload_n 1, 1) := by decide +kernel
theorem dX10_whence_71 : decode cX10_whence 71 = .ok (.invokevirtual 231, 3) := by decide +kernel
theorem dX10_whence_74 : decode cX10_whence 74 = .ok (.aload_n 0, 1) := by decide +kernel
theorem dX10_whence_75 : decode cX10_whence 75 = .ok (.aload_n 0, 1) := by decide +kernel
theorem dX10_whence_76 : decode cX10_whence 76 = .ok (.getfield 10, 3) := by decide +kernel
theorem dX10_whence_79 : decode cX10_whence 79 = .ok (.getfield 224, 3) := by decide +kernel
theorem dX10_whence_82 : decode cX10_whence 82 = .ok (.iload_n 1, 1) := by decide +kernel
theorem dX10_whence_83 : decode cX10_whence 83 = .ok (.iaload, 1) := by decide +kernel
theorem dX10_whence_84 : decode cX10_whence 84 = .ok (.iload_n 2, 1) := by decide +kernel
theorem dX10_whence_85 : decode cX10_whence 85 = .ok (.iload_n 3, 1) := by decide +kernel
theorem dX10_whence_86 : decode cX10_whence 86 = .ok (.iload 4, 2) := by decide +kernel
theorem dX10_whence_88 : decode cX10_whence 88 = .ok (.invokevirtual 121, 3) := by decide +kernel
theorem dX10_whence_91 : decode cX10_whence 91 = .ok (.aload_n 0, 1) := by decide +kernel
theorem dX10_whence_92 : decode cX10_whence 92 = .ok (.getfield 59, 3) := by decide +kernel
theorem dX10_whence_95 : decode cX10_whence 95 = .ok (.aload_n 0, 1) := by decide +kernel
theorem dX10_whence_96 : decode cX10_whence 96 = .ok (.getfield 89, 3) := by decide +kernel
theorem dX10_whence_99 : decode cX10_whence 99 = .ok (.invokevirtual 252, 3) := by decide +kernel
theorem dX10_whence_102 : decode cX10_whence 102 = .ok (.ifCond .ne 9, 3) := by decide +kernel
theorem dX10_whence_105 : decode cX10_whence 105 = .ok (.bipush (-3), 2) := by decide +kernel
theorem dX10_whence_107 : decode cX10_whence 107 = .ok (.invokestatic 160, 3) := by decide +kernel
theorem dX10_whence_110 : decode cX10_whence 110 = .ok (.lreturn, 1) := by decide +kernel
theorem dX10_whence_111 : decode cX10_whence 111 = .ok (.aload_n 0, 1) := by decide +kernel
theorem dX10_whence_112 : decode cX10_whence 112 = .ok (.getfield 89, 3) := by decide +kernel
theorem dX10_whence_115 : decode cX10_whence 115 = .ok (.iload 5, 2) := by decide +kernel
theorem dX10_whence_117 : decode cX10_whence 117 = .ok (.laload, 1) := by decide +kernel
theorem dX10_whence_118 : decode cX10_whence 118 = .ok (.lreturn, 1) := by decide +kernel
theorem dX10_exact_0 : decode cX10_exact 0 = .ok (.aload_n 0, 1) := by decide +kernel
theorem dX10_exact_1 : decode cX10_exact 1 = .ok (.iload_n 1, 1) := by decide +kernel
theorem dX10_exact_2 : decode cX10_exact 2 = .ok (.invokevirtual 218, 3) := by decide +kernel
theorem dX10_exact_5 : decode cX10_exact 5 = .ok (.ifCond .eq 11, 3) := by decide +kernel
theorem dX10_exact_8 : decode cX10_exact 8 = .ok (.aload_n 0, 1) := by decide +kernel
theorem dX10_exact_9 : decode cX10_exact 9 = .ok (.iload_n 2, 1) := by decide +kernel
theorem dX10_exact_10 : decode cX10_exact 10 = .ok (.invokevirtual 218, 3) := by decide +kernel
theorem dX10_exact_13 : decode cX10_exact 13 = .ok (.ifCond .ne 5, 3) := by decide +kernel
theorem dX10_exact_16 : decode cX10_exact 16 = .ok (.iconst (-1), 1) := by decide +kernel
theorem dX10_exact_17 : decode cX10_exact 17 = .ok (.ireturn, 1) := by decide +kernel
theorem dX10_exact_18 : decode cX10_exact 18 = .ok (.aload_n 0, 1) := by decide +kernel
theorem dX10_exact_19 : decode cX10_exact 19 = .ok (.getfield 59, 3) := by decide +kernel
theorem dX10_exact_22 : decode cX10_exact 22 = .ok (.aload_n 0, 1) := by decide +kernel
theorem dX10_exact_23 : decode cX10_exact 23 = .ok (.getfield 10, 3) := by decide +kernel
theorem dX10_exact_26 : decode cX10_exact 26 = .ok (.iload_n 1, 1) := by decide +kernel
theorem dX10_exact_27 : decode cX10_exact 27 = .ok (.invokevirtual 227, 3) := by decide +kernel
theorem dX10_exact_30 : decode cX10_exact 30 = .ok (.ifCond .eq 39, 3) := by decide +kernel
theorem dX10_exact_33 : decode cX10_exact 33 = .ok (.aload_n 0, 1) := by decide +kernel
theorem dX10_exact_34 : decode cX10_exact 34 = .ok (.getfield 63, 3) := by decide +kernel
theorem dX10_exact_37 : decode cX10_exact 37 = .ok (.aload_n 0, 1) := by decide +kernel
theorem dX10_exact_38 : decode cX10_exact 38 = .ok (.getfield 10, 3) := by decide +kernel
theorem dX10_exact_41 : decode cX10_exact 41 = .ok (.iload_n 2, 1) := by decide +kernel
theorem dX10_exact_42 : decode cX10_exact 42 = .ok (.invokevirtual 227, 3) := by decide +kernel
theorem dX10_exact_45 : decode cX10_exact 45 = .ok (.ifCond .eq 24, 3) := by decide +kernel
theorem dX10_exact_48 : decode cX10_exact 48 = .ok (.aload_n 0, 1) := by decide +kernel
theorem dX10_exact_49 : decode cX10_exact 49 = .ok (.getfield 10, 3) := by decide +kernel
theorem dX10_exact_52 : decode cX10_exact 52 = .ok (.getfield 224, 3) := by decide +kernel
theorem dX10_exact_55 : decode cX10_exact 55 = .ok (.iload_n 1, 1) := by decide +kernel
theorem dX10_exact_56 : decode cX10_exact 56 = .ok (.iaload, 1) := by decide +kernel
theorem dX10_exact_57 : decode cX10_exact 57 = .ok (.aload_n 0, 1) := by decide +kernel
theorem dX10_exact_58 : decode cX10_exact 58 = .ok (.getfield 10, 3) := by decide +kernel
theorem dX10_exact_61 : decode cX10_exact 61 = .ok (.getfield 221, 3) := by decide +kernel
theorem dX10_exact_64 : decode cX10_exact 64 = .ok (.iload_n 2, 1) := by decide +kernel
theorem dX10_exact_65 : decode cX10_exact 65 = .ok (.iaload, 1) := by decide +kernel
theorem dX10_exact_66 : decode cX10_exact 66 = .ok (.if_icmp .eq 6, 3) := by decide +kernel
theorem dX10_exact_69 : decode cX10_exact 69 = .ok (.bipush (-4), 2) := by decide +kernel
theorem dX10_exact_71 : decode cX10_exact 71 = .ok (.ireturn, 1) := by decide +kernel
theorem dX10_exact_72 : decode cX10_exact 72 = .ok (.aload_n 0, 1) := by decide +kernel
theorem dX10_exact_73 : decode cX10_exact 73 = .ok (.getfield 59, 3) := by decide +kernel
theorem dX10_exact_76 : decode cX10_exact 76 = .ok (.aload_n 0, 1) := by decide +kernel
theorem dX10_exact_77 : decode cX10_exact 77 = .ok (.getfield 10, 3) := by decide +kernel
theorem dX10_exact_80 : decode cX10_exact 80 = .ok (.iload_n 1, 1) := by decide +kernel
theorem dX10_exact_81 : decode cX10_exact 81 = .ok (.invokevirtual 231, 3) := by decide +kernel
theorem dX10_exact_84 : decode cX10_exact 84 = .ok (.aload_n 0, 1) := by decide +kernel
theorem dX10_exact_85 : decode cX10_exact 85 = .ok (.getfield 63, 3) := by decide +kernel
theorem dX10_exact_88 : decode cX10_exact 88 = .ok (.aload_n 0, 1) := by decide +kernel
theorem dX10_exact_89 : decode cX10_exact 89 = .ok (.getfield 10, 3) := by decide +kernel
theorem dX10_exact_92 : decode cX10_exact 92 = .ok (.iload_n 2, 1) := by decide +kernel
theorem dX10_exact_93 : decode cX10_exact 93 = .ok (.invokevirtual 231, 3) := by decide +kernel
theorem dX10_exact_96 : decode cX10_exact 96 = .ok (.aload_n 0, 1) := by decide +kernel
theorem dX10_exact_97 : decode cX10_exact 97 = .ok (.getfield 59, 3) := by decide +kernel
theorem dX10_exact_100 : decode cX10_exact 100 = .ok (.getfield 256, 3) := by decide +kernel
theorem dX10_exact_103 : decode cX10_exact 103 = .ok (.aload_n 0, 1) := by decide +kernel
theorem dX10_exact_104 : decode cX10_exact 104 = .ok (.getfield 63, 3) := by decide +kernel
theorem dX10_exact_107 : decode cX10_exact 107 = .ok (.getfield 259, 3) := by decide +kernel
theorem dX10_exact_110 : decode cX10_exact 110 = .ok (.invokevirtual 262, 3) := by decide +kernel
theorem dX10_exact_113 : decode cX10_exact 113 = .ok (.ifCond .eq 7, 3) := by decide +kernel
theorem dX10_exact_116 : decode cX10_exact 116 = .ok (.iconst 1, 1) := by decide +kernel
theorem dX10_exact_117 : decode cX10_exact 117 = .ok (.goto 4, 3) := by decide +kernel
theorem dX10_exact_120 : decode cX10_exact 120 = .ok (.iconst 0, 1) := by decide +kernel
theorem dX10_exact_121 : decode cX10_exact 121 = .ok (.ireturn, 1) := by decide +kernel
theorem dX10_feed_0 : decode cX10_feed 0 = .ok (.iload_n 3, 1) := by decide +kernel
theorem dX10_feed_1 : decode cX10_feed 1 = .ok (.iconst 1, 1) := by decide +kernel
theorem dX10_feed_2 : decode cX10_feed 2 = .ok (.if_icmp .lt 9, 3) := by decide +kernel
theorem dX10_feed_5 : decode cX10_feed 5 = .ok (.iload_n 3, 1) := by decide +kernel
theorem dX10_feed_6 : decode cX10_feed 6 = .ok (.bipush 8, 2) := by decide +kernel
theorem dX10_feed_8 : decode cX10_feed 8 = .ok (.if_icmp .le 5, 3) := by decide +kernel
theorem dX10_feed_11 : decode cX10_feed 11 = .ok (.iconst (-1), 1) := by decide +kernel
theorem dX10_feed_12 : decode cX10_feed 12 = .ok (.ireturn, 1) := by decide +kernel
theorem dX10_feed_13 : decode cX10_feed 13 = .ok (.aload_n 0, 1) := by decide +kernel
theorem dX10_feed_14 : decode cX10_feed 14 = .ok (.getfield 33, 3) := by decide +kernel
theorem dX10_feed_17 : decode cX10_feed 17 = .ok (.getfield 266, 3) := by decide +kernel
theorem dX10_feed_20 : decode cX10_feed 20 = .ok (.iload_n 3, 1) := by decide +kernel
theorem dX10_feed_21 : decode cX10_feed 21 = .ok (.iadd, 1) := by decide +kernel
theorem dX10_feed_22 : decode cX10_feed 22 = .ok (.bipush 100, 2) := by decide +kernel
theorem dX10_feed_24 : decode cX10_feed 24 = .ok (.if_icmp .le 6, 3) := by decide +kernel
theorem dX10_feed_27 : decode cX10_feed 27 = .ok (.bipush (-2), 2) := by decide +kernel
theorem dX10_feed_29 : decode cX10_feed 29 = .ok (.ireturn, 1) := by decide +kernel
theorem dX10_feed_30 : decode cX10_feed 30 = .ok (.aload_n 0, 1) := by decide +kernel
theorem dX10_feed_31 : decode cX10_feed 31 = .ok (.getfield 33, 3) := by decide +kernel
theorem dX10_feed_34 : decode cX10_feed 34 = .ok (.lload_n 1, 1) := by decide +kernel
theorem dX10_feed_35 : decode cX10_feed 35 = .ok (.iload_n 3, 1) := by decide +kernel
theorem dX10_feed_36 : decode cX10_feed 36 = .ok (.invokevirtual 270, 3) := by decide +kernel
theorem dX10_feed_39 : decode cX10_feed 39 = .ok (.aload_n 0, 1) := by decide +kernel
theorem dX10_feed_40 : decode cX10_feed 40 = .ok (.getfield 33, 3) := by decide +kernel
theorem dX10_feed_43 : decode cX10_feed 43 = .ok (.getfield 266, 3) := by decide +kernel
theorem dX10_feed_46 : decode cX10_feed 46 = .ok (.ireturn, 1) := by decide +kernel
theorem dX10_text_0 : decode cX10_text 0 = .ok (.iload_n 1, 1) := by decide +kernel
theorem dX10_text_1 : decode cX10_text 1 = .ok (.invokestatic 205, 3) := by decide +kernel
theorem dX10_text_4 : decode cX10_text 4 = .ok (.ifCond .ne 5, 3) := by decide +kernel
theorem dX10_text_7 : decode cX10_text 7 = .ok (.iconst (-1), 1) := by decide +kernel
theorem dX10_text_8 : decode cX10_text 8 = .ok (.ireturn, 1) := by decide +kernel
theorem dX10_text_9 : decode cX10_text 9 = .ok (.aload_n 0, 1) := by decide +kernel
theorem dX10_text_10 : decode cX10_text 10 = .ok (.getfield 33, 3) := by decide +kernel
theorem dX10_text_13 : decode cX10_text 13 = .ok (.aload_n 0, 1) := by decide +kernel
theorem dX10_text_14 : decode cX10_text 14 = .ok (.getfield 10, 3) := by decide +kernel
theorem dX10_text_17 : decode cX10_text 17 = .ok (.invokevirtual 274, 3) := by decide +kernel
theorem dX10_text_20 : decode cX10_text 20 = .ok (.istore_n 2, 1) := by decide +kernel
theorem dX10_text_21 : decode cX10_text 21 = .ok (.iload_n 2, 1) := by decide +kernel
theorem dX10_text_22 : decode cX10_text 22 = .ok (.ifCond .ge 5, 3) := by decide +kernel
theorem dX10_text_25 : decode cX10_text 25 = .ok (.iload_n 2, 1) := by decide +kernel
theorem dX10_text_26 : decode cX10_text 26 = .ok (.ireturn, 1) := by decide +kernel
theorem dX10_text_27 : decode cX10_text 27 = .ok (.aload_n 0, 1) := by decide +kernel
theorem dX10_text_28 : decode cX10_text 28 = .ok (.getfield 33, 3) := by decide +kernel
theorem dX10_text_31 : decode cX10_text 31 = .ok (.invokevirtual 278, 3) := by decide +kernel
theorem dX10_text_34 : decode cX10_text 34 = .ok (.astore_n 3, 1) := by decide +kernel
theorem dX10_text_35 : decode cX10_text 35 = .ok (.aload_n 3, 1) := by decide +kernel
theorem dX10_text_36 : decode cX10_text 36 = .ok (.getfield 282, 3) := by decide +kernel
theorem dX10_text_39 : decode cX10_text 39 = .ok (.invokestatic 98, 3) := by decide +kernel
theorem dX10_text_42 : decode cX10_text 42 = .ok (.ifCond .eq 13, 3) := by decide +kernel
theorem dX10_text_45 : decode cX10_text 45 = .ok (.aload_n 3, 1) := by decide +kernel
theorem dX10_text_46 : decode cX10_text 46 = .ok (.getfield 286, 3) := by decide +kernel
theorem dX10_text_49 : decode cX10_text 49 = .ok (.invokestatic 98, 3) := by decide +kernel
theorem dX10_text_52 : decode cX10_text 52 = .ok (.ifCond .ne 7, 3) := by decide +kernel
theorem dX10_text_55 : decode cX10_text 55 = .ok (.sipush (-300), 3) := by decide +kernel
theorem dX10_text_58 : decode cX10_text 58 = .ok (.ireturn, 1) := by decide +kernel
theorem dX10_text_59 : decode cX10_text 59 = .ok (.aload_n 0, 1) := by decide +kernel
theorem dX10_text_60 : decode cX10_text 60 = .ok (.getfield 10, 3) := by decide +kernel
theorem dX10_text_63 : decode cX10_text 63 = .ok (.aload_n 3, 1) := by decide +kernel
theorem dX10_text_64 : decode cX10_text 64 = .ok (.getfield 286, 3) := by decide +kernel
theorem dX10_text_67 : decode cX10_text 67 = .ok (.aload_n 0, 1) := by decide +kernel
theorem dX10_text_68 : decode cX10_text 68 = .ok (.getfield 69, 3) := by decide +kernel
theorem dX10_text_71 : decode cX10_text 71 = .ok (.invokevirtual 137, 3) := by decide +kernel
theorem dX10_text_74 : decode cX10_text 74 = .ok (.aload_n 3, 1) := by decide +kernel
theorem dX10_text_75 : decode cX10_text 75 = .ok (.aload_n 0, 1) := by decide +kernel
theorem dX10_text_76 : decode cX10_text 76 = .ok (.getfield 69, 3) := by decide +kernel
theorem dX10_text_79 : decode cX10_text 79 = .ok (.invokevirtual 288, 3) := by decide +kernel
theorem dX10_text_82 : decode cX10_text 82 = .ok (.aload_n 3, 1) := by decide +kernel
theorem dX10_text_83 : decode cX10_text 83 = .ok (.ldc2_w 190, 3) := by decide +kernel
theorem dX10_text_86 : decode cX10_text 86 = .ok (.invokevirtual 292, 3) := by decide +kernel
theorem dX10_text_89 : decode cX10_text 89 = .ok (.ifCond .ne 6, 3) := by decide +kernel
theorem dX10_text_92 : decode cX10_text 92 = .ok (.bipush (-16), 2) := by decide +kernel
theorem dX10_text_94 : decode cX10_text 94 = .ok (.ireturn, 1) := by decide +kernel
theorem dX10_text_95 : decode cX10_text 95 = .ok (.aload_n 0, 1) := by decide +kernel
theorem dX10_text_96 : decode cX10_text 96 = .ok (.getfield 26, 3) := by decide +kernel
theorem dX10_text_99 : decode cX10_text 99 = .ok (.aload_n 0, 1) := by decide +kernel
theorem dX10_text_100 : decode cX10_text 100 = .ok (.getfield 10, 3) := by decide +kernel
theorem dX10_text_103 : decode cX10_text 103 = .ok (.invokevirtual 102, 3) := by decide +kernel
theorem dX10_text_106 : decode cX10_text 106 = .ok (.aload_n 0, 1) := by decide +kernel
theorem dX10_text_107 : decode cX10_text 107 = .ok (.getfield 10, 3) := by decide +kernel
theorem dX10_text_110 : decode cX10_text 110 = .ok (.iload_n 1, 1) := by decide +kernel
theorem dX10_text_111 : decode cX10_text 111 = .ok (.aload_n 3, 1) := by decide +kernel
theorem dX10_text_112 : decode cX10_text 112 = .ok (.invokevirtual 296, 3) := by decide +kernel
theorem dX10_text_115 : decode cX10_text 115 = .ok (.iconst 1, 1) := by decide +kernel
theorem dX10_text_116 : decode cX10_text 116 = .ok (.ireturn, 1) := by decide +kernel
theorem dX10_diagram_0 : decode cX10_diagram 0 = .ok (.aload_n 0, 1) := by decide +kernel
theorem dX10_diagram_1 : decode cX10_diagram 1 = .ok (.iload_n 1, 1) := by decide +kernel
theorem dX10_diagram_2 : decode cX10_diagram 2 = .ok (.iload_n 2, 1) := by decide +kernel
theorem dX10_diagram_3 : decode cX10_diagram 3 = .ok (.invokevirtual 300, 3) := by decide +kernel
theorem dX10_diagram_6 : decode cX10_diagram 6 = .ok (.istore_n 3, 1) := by decide +kernel
theorem dX10_diagram_7 : decode cX10_diagram 7 = .ok (.iload_n 3, 1) := by decide +kernel
theorem dX10_diagram_8 : decode cX10_diagram 8 = .ok (.ifCond .ge 5, 3) := by decide +kernel
theorem dX10_diagram_11 : decode cX10_diagram 11 = .ok (.iload_n 3, 1) := by decide +kernel
theorem dX10_diagram_12 : decode cX10_diagram 12 = .ok (.ireturn, 1) := by decide +kernel
theorem dX10_diagram_13 : decode cX10_diagram 13 = .ok (.aload_n 0, 1) := by decide +kernel
theorem dX10_diagram_14 : decode cX10_diagram 14 = .ok (.getfield 40, 3) := by decide +kernel
theorem dX10_diagram_17 : decode cX10_diagram 17 = .ok (.aload_n 0, 1) := by decide +kernel
theorem dX10_diagram_18 : decode cX10_diagram 18 = .ok (.getfield 10, 3) := by decide +kernel
theorem dX10_diagram_21 : decode cX10_diagram 21 = .ok (.invokevirtual 304, 3) := by decide +kernel
theorem dX10_diagram_24 : decode cX10_diagram 24 = .ok (.ifCond .eq 7, 3) := by decide +kernel
theorem dX10_diagram_27 : decode cX10_diagram 27 = .ok (.iconst 1, 1) := by decide +kernel
theorem dX10_diagram_28 : decode cX10_diagram 28 = .ok (.goto 4, 3) := by decide +kernel
theorem dX10_diagram_31 : decode cX10_diagram 31 = .ok (.iconst 0, 1) := by decide +kernel
theorem dX10_diagram_32 : decode cX10_diagram 32 = .ok (.ireturn, 1) := by decide +kernel
theorem dX10_connected_0 : decode cX10_connected 0 = .ok (.aload_n 0, 1) := by decide +kernel
theorem dX10_connected_1 : decode cX10_connected 1 = .ok (.iload_n 1, 1) := by decide +kernel
theorem dX10_connected_2 : decode cX10_connected 2 = .ok (.iload_n 2, 1) := by decide +kernel
theorem dX10_connected_3 : decode cX10_connected 3 = .ok (.invokevirtual 300, 3) := by decide +kernel
theorem dX10_connected_6 : decode cX10_connected 6 = .ok (.istore 7, 2) := by decide +kernel
theorem dX10_connected_8 : decode cX10_connected 8 = .ok (.iload 7, 2) := by decide +kernel
theorem dX10_connected_10 : decode cX10_connected 10 = .ok (.ifCond .ge 9, 3) := by decide +kernel
theorem dX10_connected_13 : decode cX10_connected 13 = .ok (.iload 7, 2) := by decide +kernel
theorem dX10_connected_15 : decode cX10_connected 15 = .ok (.invokestatic 160, 3) := by decide +kernel
theorem dX10_connected_18 : decode cX10_connected 18 = .ok (.lreturn, 1) := by decide +kernel
theorem dX10_connected_19 : decode cX10_connected 19 = .ok (.aload_n 0, 1) := by decide +kernel
theorem dX10_connected_20 : decode cX10_connected 20 = .ok (.getfield 40, 3) := by decide +kernel
theorem dX10_connected_23 : decode cX10_connected 23 = .ok (.aload_n 0, 1) := by decide +kernel
theorem dX10_connected_24 : decode cX10_connected 24 = .ok (.getfield 10, 3) := by decide +kernel
theorem dX10_connected_27 : decode cX10_connected 27 = .ok (.invokevirtual 304, 3) := by decide +kernel
theorem dX10_connected_30 : decode cX10_connected 30 = .ok (.ifCond .ne 9, 3) := by decide +kernel
theorem dX10_connected_33 : decode cX10_connected 33 = .ok (.bipush (-4), 2) := by decide +kernel
theorem dX10_connected_35 : decode cX10_connected 35 = .ok (.invokestatic 160, 3) := by decide +kernel
theorem dX10_connected_38 : decode cX10_connected 38 = .ok (.lreturn, 1) := by decide +kernel
theorem dX10_connected_39 : decode cX10_connected 39 = .ok (.iload_n 3, 1) := by decide +kernel
theorem dX10_connected_40 : decode cX10_connected 40 = .ok (.iload 4, 2) := by decide +kernel
theorem dX10_connected_42 : decode cX10_connected 42 = .ok (.iload 5, 2) := by decide +kernel
theorem dX10_connected_44 : decode cX10_connected 44 = .ok (.invokestatic 156, 3) := by decide +kernel
theorem dX10_connected_47 : decode cX10_connected 47 = .ok (.ifCond .eq 23, 3) := by decide +kernel
theorem dX10_connected_50 : decode cX10_connected 50 = .ok (.aload_n 0, 1) := by decide +kernel
theorem dX10_connected_51 : decode cX10_connected 51 = .ok (.aload_n 0, 1) := by decide +kernel
theorem dX10_connected_52 : decode cX10_connected 52 = .ok (.getfield 40, 3) := by decide +kernel
theorem dX10_connected_55 : decode cX10_connected 55 = .ok (.aload_n 0, 1) := by decide +kernel
theorem dX10_connected_56 : decode cX10_connected 56 = .ok (.getfield 10, 3) := by decide +kernel
theorem dX10_connected_59 : decode cX10_connected 59 = .ok (.invokevirtual 308, 3) := by decide +kernel
theorem dX10_connected_62 : decode cX10_connected 62 = .ok (.iload 6, 2) := by decide +kernel
theorem dX10_connected_64 : decode cX10_connected 64 = .ok (.invokevirtual 145, 3) := by decide +kernel
theorem dX10_connected_67 : decode cX10_connected 67 = .ok (.ifCond .ne 8, 3) := by decide +kernel
theorem dX10_connected_70 : decode cX10_connected 70 = .ok (.iconst (-1), 1) := by decide +kernel
theorem dX10_connected_71 : decode cX10_connected 71 = .ok (.invokestatic 160, 3) := by decide +kernel
theorem dX10_connected_74 : decode cX10_connected 74 = .ok (.lreturn, 1) := by decide +kernel
theorem dX10_connected_75 : decode cX10_connected 75 = .ok (.aload_n 0, 1) := by decide +kernel
theorem dX10_connected_76 : decode cX10_connected 76 = .ok (.aload_n 0, 1) := by decide +kernel
theorem dX10_connected_77 : decode cX10_connected 77 = .ok (.getfield 40, 3) := by decide +kernel
theorem dX10_connected_80 : decode cX10_connected 80 = .ok (.aload_n 0, 1) := by decide +kernel
theorem dX10_connected_81 : decode cX10_connected 81 = .ok (.getfield 10, 3) := by decide +kernel
theorem dX10_connected_84 : decode cX10_connected 84 = .ok (.invokevirtual 311, 3) := by decide +kernel
theorem dX10_connected_87 : decode cX10_connected 87 = .ok (.iload_n 3, 1) := by decide +kernel
theorem dX10_connected_88 : decode cX10_connected 88 = .ok (.iload 4, 2) := by decide +kernel
theorem dX10_connected_90 : decode cX10_connected 90 = .ok (.iload 5, 2) := by decide +kernel
theorem dX10_connected_92 : decode cX10_connected 92 = .ok (.invokevirtual 121, 3) := by decide +kernel
theorem dX10_connected_95 : decode cX10_connected 95 = .ok (.aload_n 0, 1) := by decide +kernel
theorem dX10_connected_96 : decode cX10_connected 96 = .ok (.getfield 40, 3) := by decide +kernel
theorem dX10_connected_99 : decode cX10_connected 99 = .ok (.aload_n 0, 1) := by decide +kernel
theorem dX10_connected_100 : decode cX10_connected 100 = .ok (.getfield 10, 3) := by decide +kernel
theorem dX10_connected_103 : decode cX10_connected 103 = .ok (.aload_n 0, 1) := by decide +kernel
theorem dX10_connected_104 : decode cX10_connected 104 = .ok (.getfield 89, 3) := by decide +kernel
theorem dX10_connected_107 : decode cX10_connected 107 = .ok (.invokevirtual 314, 3) := by decide +kernel
theorem dX10_connected_110 : decode cX10_connected 110 = .ok (.ifCond .ne 9, 3) := by decide +kernel
theorem dX10_connected_113 : decode cX10_connected 113 = .ok (.bipush (-3), 2) := by decide +kernel
theorem dX10_connected_115 : decode cX10_connected 115 = .ok (.invokestatic 160, 3) := by decide +kernel
theorem dX10_connected_118 : decode cX10_connected 118 = .ok (.lreturn, 1) := by decide +kernel
theorem dX10_connected_119 : decode cX10_connected 119 = .ok (.aload_n 0, 1) := by decide +kernel
theorem dX10_connected_120 : decode cX10_connected 120 = .ok (.getfield 89, 3) := by decide +kernel
theorem dX10_connected_123 : decode cX10_connected 123 = .ok (.iload 6, 2) := by decide +kernel
theorem dX10_connected_125 : decode cX10_connected 125 = .ok (.laload, 1) := by decide +kernel
theorem dX10_connected_126 : decode cX10_connected 126 = .ok (.lreturn, 1) := by decide +kernel
theorem dX10_move_0 : decode cX10_move 0 = .ok (.aload_n 0, 1) := by decide +kernel
theorem dX10_move_1 : decode cX10_move 1 = .ok (.iload_n 1, 1) := by decide +kernel
theorem dX10_move_2 : decode cX10_move 2 = .ok (.iload_n 2, 1) := by decide +kernel
theorem dX10_move_3 : decode cX10_move 3 = .ok (.invokevirtual 318, 3) := by decide +kernel
theorem dX10_move_6 : decode cX10_move 6 = .ok (.ifCond .ne 5, 3) := by decide +kernel
theorem dX10_move_9 : decode cX10_move 9 = .ok (.iconst (-1), 1) := by decide +kernel
theorem dX10_move_10 : decode cX10_move 10 = .ok (.ireturn, 1) := by decide +kernel
theorem dX10_move_11 : decode cX10_move 11 = .ok (.aload_n 0, 1) := by decide +kernel
theorem dX10_move_12 : decode cX10_move 12 = .ok (.getfield 10, 3) := by decide +kernel
theorem dX10_move_15 : decode cX10_move 15 = .ok (.getfield 321, 3) := by decide +kernel
theorem dX10_move_18 : decode cX10_move 18 = .ok (.bipush 12, 2) := by decide +kernel
theorem dX10_move_20 : decode cX10_move 20 = .ok (.if_icmp .lt 6, 3) := by decide +kernel
theorem dX10_move_23 : decode cX10_move 23 = .ok (.bipush (-2), 2) := by decide +kernel
theorem dX10_move_25 : decode cX10_move 25 = .ok (.ireturn, 1) := by decide +kernel
theorem dX10_move_26 : decode cX10_move 26 = .ok (.aload_n 0, 1) := by decide +kernel
theorem dX10_move_27 : decode cX10_move 27 = .ok (.getfield 26, 3) := by decide +kernel
theorem dX10_move_30 : decode cX10_move 30 = .ok (.aload_n 0, 1) := by decide +kernel
theorem dX10_move_31 : decode cX10_move 31 = .ok (.getfield 10, 3) := by decide +kernel
theorem dX10_move_34 : decode cX10_move 34 = .ok (.invokevirtual 102, 3) := by decide +kernel
theorem dX10_move_37 : decode cX10_move 37 = .ok (.aload_n 0, 1) := by decide +kernel
theorem dX10_move_38 : decode cX10_move 38 = .ok (.getfield 10, 3) := by decide +kernel
theorem dX10_move_41 : decode cX10_move 41 = .ok (.iload_n 1, 1) := by decide +kernel
theorem dX10_move_42 : decode cX10_move 42 = .ok (.iload_n 2, 1) := by decide +kernel
theorem dX10_move_43 : decode cX10_move 43 = .ok (.invokevirtual 324, 3) := by decide +kernel
theorem dX10_move_46 : decode cX10_move 46 = .ok (.aload_n 0, 1) := by decide +kernel
theorem dX10_move_47 : decode cX10_move 47 = .ok (.getfield 10, 3) := by decide +kernel
theorem dX10_move_50 : decode cX10_move 50 = .ok (.getfield 321, 3) := by decide +kernel
theorem dX10_move_53 : decode cX10_move 53 = .ok (.ireturn, 1) := by decide +kernel
theorem dX10_stop_0 : decode cX10_stop 0 = .ok (.iload_n 1, 1) := by decide +kernel
theorem dX10_stop_1 : decode cX10_stop 1 = .ok (.ifCond .lt 8, 3) := by decide +kernel
theorem dX10_stop_4 : decode cX10_stop 4 = .ok (.iload_n 1, 1) := by decide +kernel
theorem dX10_stop_5 : decode cX10_stop 5 = .ok (.iconst 3, 1) := by decide +kernel
theorem dX10_stop_6 : decode cX10_stop 6 = .ok (.if_icmp .le 5, 3) := by decide +kernel
theorem dX10_stop_9 : decode cX10_stop 9 = .ok (.iconst (-1), 1) := by decide +kernel
theorem dX10_stop_10 : decode cX10_stop 10 = .ok (.ireturn, 1) := by decide +kernel
theorem dX10_stop_11 : decode cX10_stop 11 = .ok (.aload_n 0, 1) := by decide +kernel
theorem dX10_stop_12 : decode cX10_stop 12 = .ok (.getfield 26, 3) := by decide +kernel
theorem dX10_stop_15 : decode cX10_stop 15 = .ok (.aload_n 0, 1) := by decide +kernel
theorem dX10_stop_16 : decode cX10_stop 16 = .ok (.getfield 10, 3) := by decide +kernel
theorem dX10_stop_19 : decode cX10_stop 19 = .ok (.invokevirtual 102, 3) := by decide +kernel
theorem dX10_stop_22 : decode cX10_stop 22 = .ok (.aload_n 0, 1) := by decide +kernel
theorem dX10_stop_23 : decode cX10_stop 23 = .ok (.getfield 10, 3) := by decide +kernel
theorem dX10_stop_26 : decode cX10_stop 26 = .ok (.iload_n 1, 1) := by decide +kernel
theorem dX10_stop_27 : decode cX10_stop 27 = .ok (.invokevirtual 327, 3) := by decide +kernel
theorem dX10_stop_30 : decode cX10_stop 30 = .ok (.aload_n 0, 1) := by decide +kernel
theorem dX10_stop_31 : decode cX10_stop 31 = .ok (.getfield 10, 3) := by decide +kernel
theorem dX10_stop_34 : decode cX10_stop 34 = .ok (.getfield 321, 3) := by decide +kernel
theorem dX10_stop_37 : decode cX10_stop 37 = .ok (.ireturn, 1) := by decide +kernel
theorem dX10_run_0 : decode cX10_run 0 = .ok (.iload_n 1, 1) := by decide +kernel
theorem dX10_run_1 : decode cX10_run 1 = .ok (.invokestatic 98, 3) := by decide +kernel
theorem dX10_run_4 : decode cX10_run 4 = .ok (.ifCond .eq 24, 3) := by decide +kernel
theorem dX10_run_7 : decode cX10_run 7 = .ok (.iload_n 2, 1) := by decide +kernel
theorem dX10_run_8 : decode cX10_run 8 = .ok (.iload_n 3, 1) := by decide +kernel
theorem dX10_run_9 : decode cX10_run 9 = .ok (.iload 4, 2) := by decide +kernel
theorem dX10_run_11 : decode cX10_run 11 = .ok (.invokestatic 156, 3) := by decide +kernel
theorem dX10_run_14 : decode cX10_run 14 = .ok (.ifCond .eq 14, 3) := by decide +kernel
theorem dX10_run_17 : decode cX10_run 17 = .ok (.iload 5, 2) := by decide +kernel
theorem dX10_run_19 : decode cX10_run 19 = .ok (.ifCond .lt 9, 3) := by decide +kernel
theorem dX10_run_22 : decode cX10_run 22 = .ok (.iload 5, 2) := by decide +kernel
theorem dX10_run_24 : decode cX10_run 24 = .ok (.iconst 3, 1) := by decide +kernel
theorem dX10_run_25 : decode cX10_run 25 = .ok (.if_icmp .le 8, 3) := by decide +kernel
theorem dX10_run_28 : decode cX10_run 28 = .ok (.iconst (-1), 1) := by decide +kernel
theorem dX10_run_29 : decode cX10_run 29 = .ok (.invokestatic 160, 3) := by decide +kernel
theorem dX10_run_32 : decode cX10_run 32 = .ok (.lreturn, 1) := by decide +kernel
theorem dX10_run_33 : decode cX10_run 33 = .ok (.aload_n 0, 1) := by decide +kernel
theorem dX10_run_34 : decode cX10_run 34 = .ok (.iload_n 1, 1) := by decide +kernel
theorem dX10_run_35 : decode cX10_run 35 = .ok (.iload_n 2, 1) := by decide +kernel
theorem dX10_run_36 : decode cX10_run 36 = .ok (.iload_n 3, 1) := by decide +kernel
theorem dX10_run_37 : decode cX10_run 37 = .ok (.iload 4, 2) := by decide +kernel
theorem dX10_run_39 : decode cX10_run 39 = .ok (.invokevirtual 121, 3) := by decide +kernel
theorem dX10_run_42 : decode cX10_run 42 = .ok (.iload_n 1, 1) := by decide +kernel
theorem dX10_run_43 : decode cX10_run 43 = .ok (.istore 6, 2) := by decide +kernel
theorem dX10_run_45 : decode cX10_run 45 = .ok (.iconst 0, 1) := by decide +kernel
theorem dX10_run_46 : decode cX10_run 46 = .ok (.istore 7, 2) := by decide +kernel
theorem dX10_run_48 : decode cX10_run 48 = .ok (.iload 7, 2) := by decide +kernel
theorem dX10_run_50 : decode cX10_run 50 = .ok (.aload_n 0, 1) := by decide +kernel
theorem dX10_run_51 : decode cX10_run 51 = .ok (.getfield 10, 3) := by decide +kernel
theorem dX10_run_54 : decode cX10_run 54 = .ok (.getfield 321, 3) := by decide +kernel
theorem dX10_run_57 : decode cX10_run 57 = .ok (.if_icmp .ge 30, 3) := by decide +kernel
theorem dX10_run_60 : decode cX10_run 60 = .ok (.aload_n 0, 1) := by decide +kernel
theorem dX10_run_61 : decode cX10_run 61 = .ok (.iload 7, 2) := by decide +kernel
theorem dX10_run_63 : decode cX10_run 63 = .ok (.iload 6, 2) := by decide +kernel
theorem dX10_run_65 : decode cX10_run 65 = .ok (.invokevirtual 331, 3) := by decide +kernel
theorem dX10_run_68 : decode cX10_run 68 = .ok (.istore 6, 2) := by decide +kernel
theorem dX10_run_70 : decode cX10_run 70 = .ok (.iload 6, 2) := by decide +kernel
theorem dX10_run_72 : decode cX10_run 72 = .ok (.ifCond .ge 9, 3) := by decide +kernel
theorem dX10_run_75 : decode cX10_run 75 = .ok (.iload 6, 2) := by decide +kernel
theorem dX10_run_77 : decode cX10_run 77 = .ok (.invokestatic 160, 3) := by decide +kernel
theorem dX10_run_80 : decode cX10_run 80 = .ok (.lreturn, 1) := by decide +kernel
theorem dX10_run_81 : decode cX10_run 81 = .ok (.iinc 7 1, 3) := by decide +kernel
theorem dX10_run_84 : decode cX10_run 84 = .ok (.goto (-36), 3) := by decide +kernel
theorem dX10_run_87 : decode cX10_run 87 = .ok (.iload 5, 2) := by decide +kernel
theorem dX10_run_89 : decode cX10_run 89 = .ok (.iconst 3, 1) := by decide +kernel
theorem dX10_run_90 : decode cX10_run 90 = .ok (.if_icmp .ne 9, 3) := by decide +kernel
theorem dX10_run_93 : decode cX10_run 93 = .ok (.iload 6, 2) := by decide +kernel
theorem dX10_run_95 : decode cX10_run 95 = .ok (.i2l, 1) := by decide +kernel
theorem dX10_run_96 : decode cX10_run 96 = .ok (.goto 10, 3) := by decide +kernel
theorem dX10_run_99 : decode cX10_run 99 = .ok (.aload_n 0, 1) := by decide +kernel
theorem dX10_run_100 : decode cX10_run 100 = .ok (.getfield 89, 3) := by decide +kernel
theorem dX10_run_103 : decode cX10_run 103 = .ok (.iload 5, 2) := by decide +kernel
theorem dX10_run_105 : decode cX10_run 105 = .ok (.laload, 1) := by decide +kernel
theorem dX10_run_106 : decode cX10_run 106 = .ok (.lreturn, 1) := by decide +kernel
theorem dX10_undo_0 : decode cX10_undo 0 = .ok (.aload_n 0, 1) := by decide +kernel
theorem dX10_undo_1 : decode cX10_undo 1 = .ok (.getfield 26, 3) := by decide +kernel
theorem dX10_undo_4 : decode cX10_undo 4 = .ok (.getfield 334, 3) := by decide +kernel
theorem dX10_undo_7 : decode cX10_undo 7 = .ok (.ifCond .ne 6, 3) := by decide +kernel
theorem dX10_undo_10 : decode cX10_undo 10 = .ok (.bipush (-3), 2) := by decide +kernel
theorem dX10_undo_12 : decode cX10_undo 12 = .ok (.ireturn, 1) := by decide +kernel
theorem dX10_undo_13 : decode cX10_undo 13 = .ok (.aload_n 0, 1) := by decide +kernel
theorem dX10_undo_14 : decode cX10_undo 14 = .ok (.getfield 26, 3) := by decide +kernel
theorem dX10_undo_17 : decode cX10_undo 17 = .ok (.aload_n 0, 1) := by decide +kernel
theorem dX10_undo_18 : decode cX10_undo 18 = .ok (.getfield 10, 3) := by decide +kernel
theorem dX10_undo_21 : decode cX10_undo 21 = .ok (.invokevirtual 335, 3) := by decide +kernel
theorem dX10_undo_24 : decode cX10_undo 24 = .ok (.aload_n 0, 1) := by decide +kernel
theorem dX10_undo_25 : decode cX10_undo 25 = .ok (.getfield 26, 3) := by decide +kernel
theorem dX10_undo_28 : decode cX10_undo 28 = .ok (.getfield 334, 3) := by decide +kernel
theorem dX10_undo_31 : decode cX10_undo 31 = .ok (.ireturn, 1) := by decide +kernel
theorem dX10_sheet_0 : decode cX10_sheet 0 = .ok (.iload_n 1, 1) := by decide +kernel
theorem dX10_sheet_1 : decode cX10_sheet 1 = .ok (.invokestatic 183, 3) := by decide +kernel
theorem dX10_sheet_4 : decode cX10_sheet 4 = .ok (.ifCond .eq 13, 3) := by decide +kernel
theorem dX10_sheet_7 : decode cX10_sheet 7 = .ok (.iload_n 2, 1) := by decide +kernel
theorem dX10_sheet_8 : decode cX10_sheet 8 = .ok (.iconst (-1), 1) := by decide +kernel
theorem dX10_sheet_9 : decode cX10_sheet 9 = .ok (.if_icmp .lt 8, 3) := by decide +kernel
theorem dX10_sheet_12 : decode cX10_sheet 12 = .ok (.iload_n 2, 1) := by decide +kernel
theorem dX10_sheet_13 : decode cX10_sheet 13 = .ok (.iconst 2, 1) := by decide +kernel
theorem dX10_sheet_14 : decode cX10_sheet 14 = .ok (.if_icmp .le 5, 3) := by decide +kernel
theorem dX10_sheet_17 : decode cX10_sheet 17 = .ok (.iconst (-1), 1) := by decide +kernel
theorem dX10_sheet_18 : decode cX10_sheet 18 = .ok (.ireturn, 1) := by decide +kernel
theorem dX10_sheet_19 : decode cX10_sheet 19 = .ok (.iload_n 2, 1) := by decide +kernel
theorem dX10_sheet_20 : decode cX10_sheet 20 = .ok (.iconst (-1), 1) := by decide +kernel
theorem dX10_sheet_21 : decode cX10_sheet 21 = .ok (.if_icmp .ne 16, 3) := by decide +kernel
theorem dX10_sheet_24 : decode cX10_sheet 24 = .ok (.aload_n 0, 1) := by decide +kernel
theorem dX10_sheet_25 : decode cX10_sheet 25 = .ok (.getfield 46, 3) := by decide +kernel
theorem dX10_sheet_28 : decode cX10_sheet 28 = .ok (.iload_n 1, 1) := by decide +kernel
theorem dX10_sheet_29 : decode cX10_sheet 29 = .ok (.aaload, 1) := by decide +kernel
theorem dX10_sheet_30 : decode cX10_sheet 30 = .ok (.iconst (-1), 1) := by decide +kernel
theorem dX10_sheet_31 : decode cX10_sheet 31 = .ok (.iconst 0, 1) := by decide +kernel
theorem dX10_sheet_32 : decode cX10_sheet 32 = .ok (.invokevirtual 338, 3) := by decide +kernel
theorem dX10_sheet_35 : decode cX10_sheet 35 = .ok (.iconst 1, 1) := by decide +kernel
theorem dX10_sheet_36 : decode cX10_sheet 36 = .ok (.ireturn, 1) := by decide +kernel
theorem dX10_sheet_37 : decode cX10_sheet 37 = .ok (.iload_n 3, 1) := by decide +kernel
theorem dX10_sheet_38 : decode cX10_sheet 38 = .ok (.bipush 40, 2) := by decide +kernel
theorem dX10_sheet_40 : decode cX10_sheet 40 = .ok (.if_icmp .le 5, 3) := by decide +kernel
theorem dX10_sheet_43 : decode cX10_sheet 43 = .ok (.iconst (-1), 1) := by decide +kernel
theorem dX10_sheet_44 : decode cX10_sheet 44 = .ok (.ireturn, 1) := by decide +kernel
theorem dX10_sheet_45 : decode cX10_sheet 45 = .ok (.iload_n 3, 1) := by decide +kernel
theorem dX10_sheet_46 : decode cX10_sheet 46 = .ok (.ifCond .ge 6, 3) := by decide +kernel
theorem dX10_sheet_49 : decode cX10_sheet 49 = .ok (.bipush (-14), 2) := by decide +kernel
theorem dX10_sheet_51 : decode cX10_sheet 51 = .ok (.ireturn, 1) := by decide +kernel
theorem dX10_sheet_52 : decode cX10_sheet 52 = .ok (.aload_n 0, 1) := by decide +kernel
theorem dX10_sheet_53 : decode cX10_sheet 53 = .ok (.getfield 46, 3) := by decide +kernel
theorem dX10_sheet_56 : decode cX10_sheet 56 = .ok (.iload_n 1, 1) := by decide +kernel
theorem dX10_sheet_57 : decode cX10_sheet 57 = .ok (.aaload, 1) := by decide +kernel
theorem dX10_sheet_58 : decode cX10_sheet 58 = .ok (.iload_n 2, 1) := by decide +kernel
theorem dX10_sheet_59 : decode cX10_sheet 59 = .ok (.iload_n 3, 1) := by decide +kernel
theorem dX10_sheet_60 : decode cX10_sheet 60 = .ok (.invokevirtual 338, 3) := by decide +kernel
theorem dX10_sheet_63 : decode cX10_sheet 63 = .ok (.iconst 1, 1) := by decide +kernel
theorem dX10_sheet_64 : decode cX10_sheet 64 = .ok (.ireturn, 1) := by decide +kernel
theorem dX10_put_0 : decode cX10_put 0 = .ok (.iload_n 1, 1) := by decide +kernel
theorem dX10_put_1 : decode cX10_put 1 = .ok (.invokestatic 183, 3) := by decide +kernel
theorem dX10_put_4 : decode cX10_put 4 = .ok (.ifCond .ne 5, 3) := by decide +kernel
theorem dX10_put_7 : decode cX10_put 7 = .ok (.iconst (-1), 1) := by decide +kernel
theorem dX10_put_8 : decode cX10_put 8 = .ok (.ireturn, 1) := by decide +kernel
theorem dX10_put_9 : decode cX10_put 9 = .ok (.aload_n 0, 1) := by decide +kernel
theorem dX10_put_10 : decode cX10_put 10 = .ok (.getfield 46, 3) := by decide +kernel
theorem dX10_put_13 : decode cX10_put 13 = .ok (.iload_n 1, 1) := by decide +kernel
theorem dX10_put_14 : decode cX10_put 14 = .ok (.aaload, 1) := by decide +kernel
theorem dX10_put_15 : decode cX10_put 15 = .ok (.astore 5, 2) := by decide +kernel
theorem dX10_put_17 : decode cX10_put 17 = .ok (.aload 5, 2) := by decide +kernel
theorem dX10_put_19 : decode cX10_put 19 = .ok (.aload 5, 2) := by decide +kernel
theorem dX10_put_21 : decode cX10_put 21 = .ok (.getfield 341, 3) := by decide +kernel
theorem dX10_put_24 : decode cX10_put 24 = .ok (.iload_n 2, 1) := by decide +kernel
theorem dX10_put_25 : decode cX10_put 25 = .ok (.iconst 1, 1) := by decide +kernel
theorem dX10_put_26 : decode cX10_put 26 = .ok (.invokevirtual 186, 3) := by decide +kernel
theorem dX10_put_29 : decode cX10_put 29 = .ok (.istore 6, 2) := by decide +kernel
theorem dX10_put_31 : decode cX10_put 31 = .ok (.iload 6, 2) := by decide +kernel
theorem dX10_put_33 : decode cX10_put 33 = .ok (.ifCond .ge 6, 3) := by decide +kernel
theorem dX10_put_36 : decode cX10_put 36 = .ok (.iload 6, 2) := by decide +kernel
theorem dX10_put_38 : decode cX10_put 38 = .ok (.ireturn, 1) := by decide +kernel
theorem dX10_put_39 : decode cX10_put 39 = .ok (.aload 5, 2) := by decide +kernel
theorem dX10_put_41 : decode cX10_put 41 = .ok (.getfield 195, 3) := by decide +kernel
theorem dX10_put_44 : decode cX10_put 44 = .ok (.iload_n 2, 1) := by decide +kernel
theorem dX10_put_45 : decode cX10_put 45 = .ok (.aload 5, 2) := by decide +kernel
theorem dX10_put_47 : decode cX10_put 47 = .ok (.getfield 341, 3) := by decide +kernel
theorem dX10_put_50 : decode cX10_put 50 = .ok (.ifCond .ne 10, 3) := by decide +kernel
theorem dX10_put_53 : decode cX10_put 53 = .ok (.lload_n 3, 1) := by decide +kernel
theorem dX10_put_54 : decode cX10_put 54 = .ok (.l2i, 1) := by decide +kernel
theorem dX10_put_55 : decode cX10_put 55 = .ok (.i2b, 1) := by decide +kernel
theorem dX10_put_56 : decode cX10_put 56 = .ok (.i2l, 1) := by decide +kernel
theorem dX10_put_57 : decode cX10_put 57 = .ok (.goto 19, 3) := by decide +kernel
theorem dX10_put_60 : decode cX10_put 60 = .ok (.aload 5, 2) := by decide +kernel
theorem dX10_put_62 : decode cX10_put 62 = .ok (.getfield 341, 3) := by decide +kernel
theorem dX10_put_65 : decode cX10_put 65 = .ok (.iconst 1, 1) := by decide +kernel
theorem dX10_put_66 : decode cX10_put 66 = .ok (.if_icmp .ne 9, 3) := by decide +kernel
theorem dX10_put_69 : decode cX10_put 69 = .ok (.lload_n 3, 1) := by decide +kernel
theorem dX10_put_70 : decode cX10_put 70 = .ok (.l2i, 1) := by decide +kernel
theorem dX10_put_71 : decode cX10_put 71 = .ok (.i2l, 1) := by decide +kernel
theorem dX10_put_72 : decode cX10_put 72 = .ok (.goto 4, 3) := by decide +kernel
theorem dX10_put_75 : decode cX10_put 75 = .ok (.lload_n 3, 1) := by decide +kernel
theorem dX10_put_76 : decode cX10_put 76 = .ok (.lastore, 1) := by decide +kernel
theorem dX10_put_77 : decode cX10_put 77 = .ok (.iconst 1, 1) := by decide +kernel
theorem dX10_put_78 : decode cX10_put 78 = .ok (.ireturn, 1) := by decide +kernel
theorem dX10_item_0 : decode cX10_item 0 = .ok (.iload_n 1, 1) := by decide +kernel
theorem dX10_item_1 : decode cX10_item 1 = .ok (.invokestatic 183, 3) := by decide +kernel
theorem dX10_item_4 : decode cX10_item 4 = .ok (.ifCond .eq 12, 3) := by decide +kernel
theorem dX10_item_7 : decode cX10_item 7 = .ok (.iload_n 2, 1) := by decide +kernel
theorem dX10_item_8 : decode cX10_item 8 = .ok (.ifCond .lt 8, 3) := by decide +kernel
theorem dX10_item_11 : decode cX10_item 11 = .ok (.iload_n 2, 1) := by decide +kernel
theorem dX10_item_12 : decode cX10_item 12 = .ok (.iconst 2, 1) := by decide +kernel
theorem dX10_item_13 : decode cX10_item 13 = .ok (.if_icmp .le 5, 3) := by decide +kernel
theorem dX10_item_16 : decode cX10_item 16 = .ok (.iconst (-1), 1) := by decide +kernel
theorem dX10_item_17 : decode cX10_item 17 = .ok (.ireturn, 1) := by decide +kernel
theorem dX10_item_18 : decode cX10_item 18 = .ok (.aload_n 0, 1) := by decide +kernel
theorem dX10_item_19 : decode cX10_item 19 = .ok (.getfield 46, 3) := by decide +kernel
theorem dX10_item_22 : decode cX10_item 22 = .ok (.iload_n 1, 1) := by decide +kernel
theorem dX10_item_23 : decode cX10_item 23 = .ok (.aaload, 1) := by decide +kernel
theorem dX10_item_24 : decode cX10_item 24 = .ok (.iload_n 2, 1) := by decide +kernel
theorem dX10_item_25 : decode cX10_item 25 = .ok (.iload_n 3, 1) := by decide +kernel
theorem dX10_item_26 : decode cX10_item 26 = .ok (.iconst 1, 1) := by decide +kernel
theorem dX10_item_27 : decode cX10_item 27 = .ok (.invokevirtual 186, 3) := by decide +kernel
theorem dX10_item_30 : decode cX10_item 30 = .ok (.istore 4, 2) := by decide +kernel
theorem dX10_item_32 : decode cX10_item 32 = .ok (.iload 4, 2) := by decide +kernel
theorem dX10_item_34 : decode cX10_item 34 = .ok (.ifCond .ge 6, 3) := by decide +kernel
theorem dX10_item_37 : decode cX10_item 37 = .ok (.iload 4, 2) := by decide +kernel
theorem dX10_item_39 : decode cX10_item 39 = .ok (.ireturn, 1) := by decide +kernel
theorem dX10_item_40 : decode cX10_item 40 = .ok (.aload_n 0, 1) := by decide +kernel
theorem dX10_item_41 : decode cX10_item 41 = .ok (.getfield 46, 3) := by decide +kernel
theorem dX10_item_44 : decode cX10_item 44 = .ok (.iload_n 1, 1) := by decide +kernel
theorem dX10_item_45 : decode cX10_item 45 = .ok (.aaload, 1) := by decide +kernel
theorem dX10_item_46 : decode cX10_item 46 = .ok (.getfield 195, 3) := by decide +kernel
theorem dX10_item_49 : decode cX10_item 49 = .ok (.iload_n 3, 1) := by decide +kernel
theorem dX10_item_50 : decode cX10_item 50 = .ok (.laload, 1) := by decide +kernel
theorem dX10_item_51 : decode cX10_item 51 = .ok (.l2i, 1) := by decide +kernel
theorem dX10_item_52 : decode cX10_item 52 = .ok (.ireturn, 1) := by decide +kernel
theorem dX10_lay_0 : decode cX10_lay 0 = .ok (.iload_n 1, 1) := by decide +kernel
theorem dX10_lay_1 : decode cX10_lay 1 = .ok (.invokestatic 344, 3) := by decide +kernel
theorem dX10_lay_4 : decode cX10_lay 4 = .ok (.ifCond .eq 21, 3) := by decide +kernel
theorem dX10_lay_7 : decode cX10_lay 7 = .ok (.iload_n 2, 1) := by decide +kernel
theorem dX10_lay_8 : decode cX10_lay 8 = .ok (.invokestatic 98, 3) := by decide +kernel
theorem dX10_lay_11 : decode cX10_lay 11 = .ok (.ifCond .eq 14, 3) := by decide +kernel
theorem dX10_lay_14 : decode cX10_lay 14 = .ok (.iload_n 3, 1) := by decide +kernel
theorem dX10_lay_15 : decode cX10_lay 15 = .ok (.iload 4, 2) := by decide +kernel
theorem dX10_lay_17 : decode cX10_lay 17 = .ok (.iload 5, 2) := by decide +kernel
theorem dX10_lay_19 : decode cX10_lay 19 = .ok (.invokestatic 156, 3) := by decide +kernel
theorem dX10_lay_22 : decode cX10_lay 22 = .ok (.ifCond .ne 5, 3) := by decide +kernel
theorem dX10_lay_25 : decode cX10_lay 25 = .ok (.iconst (-1), 1) := by decide +kernel
theorem dX10_lay_26 : decode cX10_lay 26 = .ok (.ireturn, 1) := by decide +kernel
theorem dX10_lay_27 : decode cX10_lay 27 = .ok (.aload_n 0, 1) := by decide +kernel
theorem dX10_lay_28 : decode cX10_lay 28 = .ok (.iload_n 2, 1) := by decide +kernel
theorem dX10_lay_29 : decode cX10_lay 29 = .ok (.iload_n 3, 1) := by decide +kernel
theorem dX10_lay_30 : decode cX10_lay 30 = .ok (.iload 4, 2) := by decide +kernel
theorem dX10_lay_32 : decode cX10_lay 32 = .ok (.iload 5, 2) := by decide +kernel
theorem dX10_lay_34 : decode cX10_lay 34 = .ok (.invokevirtual 121, 3) := by decide +kernel
theorem dX10_lay_37 : decode cX10_lay 37 = .ok (.aload_n 0, 1) := by decide +kernel
theorem dX10_lay_38 : decode cX10_lay 38 = .ok (.getfield 52, 3) := by decide +kernel
theorem dX10_lay_41 : decode cX10_lay 41 = .ok (.iload_n 1, 1) := by decide +kernel
theorem dX10_lay_42 : decode cX10_lay 42 = .ok (.aaload, 1) := by decide +kernel
theorem dX10_lay_43 : decode cX10_lay 43 = .ok (.iload_n 2, 1) := by decide +kernel
theorem dX10_lay_44 : decode cX10_lay 44 = .ok (.aload_n 0, 1) := by decide +kernel
theorem dX10_lay_45 : decode cX10_lay 45 = .ok (.getfield 89, 3) := by decide +kernel
theorem dX10_lay_48 : decode cX10_lay 48 = .ok (.invokevirtual 347, 3) := by decide +kernel
theorem dX10_lay_51 : decode cX10_lay 51 = .ok (.iconst 1, 1) := by decide +kernel
theorem dX10_lay_52 : decode cX10_lay 52 = .ok (.ireturn, 1) := by decide +kernel
theorem dX10_hold_0 : decode cX10_hold 0 = .ok (.iload_n 1, 1) := by decide +kernel
theorem dX10_hold_1 : decode cX10_hold 1 = .ok (.invokestatic 344, 3) := by decide +kernel
theorem dX10_hold_4 : decode cX10_hold 4 = .ok (.ifCond .eq 15, 3) := by decide +kernel
theorem dX10_hold_7 : decode cX10_hold 7 = .ok (.iload_n 2, 1) := by decide +kernel
theorem dX10_hold_8 : decode cX10_hold 8 = .ok (.iconst (-1), 1) := by decide +kernel
theorem dX10_hold_9 : decode cX10_hold 9 = .ok (.if_icmp .eq 12, 3) := by decide +kernel
theorem dX10_hold_12 : decode cX10_hold 12 = .ok (.iload_n 2, 1) := by decide +kernel
theorem dX10_hold_13 : decode cX10_hold 13 = .ok (.invokestatic 183, 3) := by decide +kernel
theorem dX10_hold_16 : decode cX10_hold 16 = .ok (.ifCond .ne 5, 3) := by decide +kernel
theorem dX10_hold_19 : decode cX10_hold 19 = .ok (.iconst (-1), 1) := by decide +kernel
theorem dX10_hold_20 : decode cX10_hold 20 = .ok (.ireturn, 1) := by decide +kernel
theorem dX10_hold_21 : decode cX10_hold 21 = .ok (.iload_n 2, 1) := by decide +kernel
theorem dX10_hold_22 : decode cX10_hold 22 = .ok (.iconst (-1), 1) := by decide +kernel
theorem dX10_hold_23 : decode cX10_hold 23 = .ok (.if_icmp .ne 17, 3) := by decide +kernel
theorem dX10_hold_26 : decode cX10_hold 26 = .ok (.aload_n 0, 1) := by decide +kernel
theorem dX10_hold_27 : decode cX10_hold 27 = .ok (.getfield 52, 3) := by decide +kernel
theorem dX10_hold_30 : decode cX10_hold 30 = .ok (.iload_n 1, 1) := by decide +kernel
theorem dX10_hold_31 : decode cX10_hold 31 = .ok (.aaload, 1) := by decide +kernel
theorem dX10_hold_32 : decode cX10_hold 32 = .ok (.iconst (-1), 1) := by decide +kernel
theorem dX10_hold_33 : decode cX10_hold 33 = .ok (.iconst 0, 1) := by decide +kernel
theorem dX10_hold_34 : decode cX10_hold 34 = .ok (.invokevirtual 350, 3) := by decide +kernel
theorem dX10_hold_37 : decode cX10_hold 37 = .ok (.goto 30, 3) := by decide +kernel
theorem dX10_hold_40 : decode cX10_hold 40 = .ok (.aload_n 0, 1) := by decide +kernel
theorem dX10_hold_41 : decode cX10_hold 41 = .ok (.getfield 52, 3) := by decide +kernel
theorem dX10_hold_44 : decode cX10_hold 44 = .ok (.iload_n 1, 1) := by decide +kernel
theorem dX10_hold_45 : decode cX10_hold 45 = .ok (.aaload, 1) := by decide +kernel
theorem dX10_hold_46 : decode cX10_hold 46 = .ok (.aload_n 0, 1) := by decide +kernel
theorem dX10_hold_47 : decode cX10_hold 47 = .ok (.getfield 46, 3) := by decide +kernel
theorem dX10_hold_50 : decode cX10_hold 50 = .ok (.iload_n 2, 1) := by decide +kernel
theorem dX10_hold_51 : decode cX10_hold 51 = .ok (.aaload, 1) := by decide +kernel
theorem dX10_hold_52 : decode cX10_hold 52 = .ok (.getfield 341, 3) := by decide +kernel
theorem dX10_hold_55 : decode cX10_hold 55 = .ok (.aload_n 0, 1) := by decide +kernel
theorem dX10_hold_56 : decode cX10_hold 56 = .ok (.getfield 46, 3) := by decide +kernel
theorem dX10_hold_59 : decode cX10_hold 59 = .ok (.iload_n 2, 1) := by decide +kernel
theorem dX10_hold_60 : decode cX10_hold 60 = .ok (.aaload, 1) := by decide +kernel
theorem dX10_hold_61 : decode cX10_hold 61 = .ok (.getfield 353, 3) := by decide +kernel
theorem dX10_hold_64 : decode cX10_hold 64 = .ok (.invokevirtual 350, 3) := by decide +kernel
theorem dX10_hold_67 : decode cX10_hold 67 = .ok (.iconst 1, 1) := by decide +kernel
theorem dX10_hold_68 : decode cX10_hold 68 = .ok (.ireturn, 1) := by decide +kernel
theorem dX10_add_0 : decode cX10_add 0 = .ok (.iload_n 1, 1) := by decide +kernel
theorem dX10_add_1 : decode cX10_add 1 = .ok (.invokestatic 344, 3) := by decide +kernel
theorem dX10_add_4 : decode cX10_add 4 = .ok (.ifCond .eq 10, 3) := by decide +kernel
theorem dX10_add_7 : decode cX10_add 7 = .ok (.iload_n 2, 1) := by decide +kernel
theorem dX10_add_8 : decode cX10_add 8 = .ok (.invokestatic 344, 3) := by decide +kernel
theorem dX10_add_11 : decode cX10_add 11 = .ok (.ifCond .ne 5, 3) := by decide +kernel
theorem dX10_add_14 : decode cX10_add 14 = .ok (.iconst (-1), 1) := by decide +kernel
theorem dX10_add_15 : decode cX10_add 15 = .ok (.ireturn, 1) := by decide +kernel
theorem dX10_add_16 : decode cX10_add 16 = .ok (.aload_n 0, 1) := by decide +kernel
theorem dX10_add_17 : decode cX10_add 17 = .ok (.getfield 52, 3) := by decide +kernel
theorem dX10_add_20 : decode cX10_add 20 = .ok (.iload_n 1, 1) := by decide +kernel
theorem dX10_add_21 : decode cX10_add 21 = .ok (.aaload, 1) := by decide +kernel
theorem dX10_add_22 : decode cX10_add 22 = .ok (.astore_n 3, 1) := by decide +kernel
theorem dX10_add_23 : decode cX10_add 23 = .ok (.aload_n 0, 1) := by decide +kernel
theorem dX10_add_24 : decode cX10_add 24 = .ok (.getfield 52, 3) := by decide +kernel
theorem dX10_add_27 : decode cX10_add 27 = .ok (.iload_n 2, 1) := by decide +kernel
theorem dX10_add_28 : decode cX10_add 28 = .ok (.aaload, 1) := by decide +kernel
theorem dX10_add_29 : decode cX10_add 29 = .ok (.astore 4, 2) := by decide +kernel
theorem dX10_add_31 : decode cX10_add 31 = .ok (.aload_n 3, 1) := by decide +kernel
theorem dX10_add_32 : decode cX10_add 32 = .ok (.invokevirtual 356, 3) := by decide +kernel
theorem dX10_add_35 : decode cX10_add 35 = .ok (.ifCond .ne 11, 3) := by decide +kernel
theorem dX10_add_38 : decode cX10_add 38 = .ok (.aload 4, 2) := by decide +kernel
theorem dX10_add_40 : decode cX10_add 40 = .ok (.invokevirtual 356, 3) := by decide +kernel
theorem dX10_add_43 : decode cX10_add 43 = .ok (.ifCond .eq 6, 3) := by decide +kernel
theorem dX10_add_46 : decode cX10_add 46 = .ok (.bipush (-11), 2) := by decide +kernel
theorem dX10_add_48 : decode cX10_add 48 = .ok (.ireturn, 1) := by decide +kernel
theorem dX10_add_49 : decode cX10_add 49 = .ok (.aload_n 3, 1) := by decide +kernel
theorem dX10_add_50 : decode cX10_add 50 = .ok (.getfield 359, 3) := by decide +kernel
theorem dX10_add_53 : decode cX10_add 53 = .ok (.iconst (-1), 1) := by decide +kernel
theorem dX10_add_54 : decode cX10_add 54 = .ok (.if_icmp .eq 15, 3) := by decide +kernel
theorem dX10_add_57 : decode cX10_add 57 = .ok (.aload_n 3, 1) := by decide +kernel
theorem dX10_add_58 : decode cX10_add 58 = .ok (.getfield 359, 3) := by decide +kernel
theorem dX10_add_61 : decode cX10_add 61 = .ok (.aload 4, 2) := by decide +kernel
theorem dX10_add_63 : decode cX10_add 63 = .ok (.getfield 359, 3) := by decide +kernel
theorem dX10_add_66 : decode cX10_add 66 = .ok (.if_icmp .eq 6, 3) := by decide +kernel
theorem dX10_add_69 : decode cX10_add 69 = .ok (.bipush (-13), 2) := by decide +kernel
theorem dX10_add_71 : decode cX10_add 71 = .ok (.ireturn, 1) := by decide +kernel
theorem dX10_add_72 : decode cX10_add 72 = .ok (.iconst 0, 1) := by decide +kernel
theorem dX10_add_73 : decode cX10_add 73 = .ok (.istore 5, 2) := by decide +kernel
theorem dX10_add_75 : decode cX10_add 75 = .ok (.iload 5, 2) := by decide +kernel
theorem dX10_add_77 : decode cX10_add 77 = .ok (.iconst 3, 1) := by decide +kernel
theorem dX10_add_78 : decode cX10_add 78 = .ok (.if_icmp .ge 32, 3) := by decide +kernel
theorem dX10_add_81 : decode cX10_add 81 = .ok (.aload_n 0, 1) := by decide +kernel
theorem dX10_add_82 : decode cX10_add 82 = .ok (.getfield 89, 3) := by decide +kernel
theorem dX10_add_85 : decode cX10_add 85 = .ok (.iload 5, 2) := by decide +kernel
theorem dX10_add_87 : decode cX10_add 87 = .ok (.aload_n 3, 1) := by decide +kernel
theorem dX10_add_88 : decode cX10_add 88 = .ok (.getfield 362, 3) := by decide +kernel
theorem dX10_add_91 : decode cX10_add 91 = .ok (.iload 5, 2) := by decide +kernel
theorem dX10_add_93 : decode cX10_add 93 = .ok (.laload, 1) := by decide +kernel
theorem dX10_add_94 : decode cX10_add 94 = .ok (.aload 4, 2) := by decide +kernel
theorem dX10_add_96 : decode cX10_add 96 = .ok (.getfield 362, 3) := by decide +kernel
theorem dX10_add_99 : decode cX10_add 99 = .ok (.iload 5, 2) := by decide +kernel
theorem dX10_add_101 : decode cX10_add 101 = .ok (.laload, 1) := by decide +kernel
theorem dX10_add_102 : decode cX10_add 102 = .ok (.ladd, 1) := by decide +kernel
theorem dX10_add_103 : decode cX10_add 103 = .ok (.lastore, 1) := by decide +kernel
theorem dX10_add_104 : decode cX10_add 104 = .ok (.iinc 5 1, 3) := by decide +kernel
theorem dX10_add_107 : decode cX10_add 107 = .ok (.goto (-32), 3) := by decide +kernel
theorem dX10_add_110 : decode cX10_add 110 = .ok (.aload_n 0, 1) := by decide +kernel
theorem dX10_add_111 : decode cX10_add 111 = .ok (.aload_n 3, 1) := by decide +kernel
theorem dX10_add_112 : decode cX10_add 112 = .ok (.invokevirtual 363, 3) := by decide +kernel
theorem dX10_add_115 : decode cX10_add 115 = .ok (.ireturn, 1) := by decide +kernel
theorem dX10_rest_0 : decode cX10_rest 0 = .ok (.iload_n 1, 1) := by decide +kernel
theorem dX10_rest_1 : decode cX10_rest 1 = .ok (.invokestatic 344, 3) := by decide +kernel
theorem dX10_rest_4 : decode cX10_rest 4 = .ok (.ifCond .ne 5, 3) := by decide +kernel
theorem dX10_rest_7 : decode cX10_rest 7 = .ok (.iconst (-1), 1) := by decide +kernel
theorem dX10_rest_8 : decode cX10_rest 8 = .ok (.ireturn, 1) := by decide +kernel
theorem dX10_rest_9 : decode cX10_rest 9 = .ok (.aload_n 0, 1) := by decide +kernel
theorem dX10_rest_10 : decode cX10_rest 10 = .ok (.getfield 52, 3) := by decide +kernel
theorem dX10_rest_13 : decode cX10_rest 13 = .ok (.iload_n 1, 1) := by decide +kernel
theorem dX10_rest_14 : decode cX10_rest 14 = .ok (.aaload, 1) := by decide +kernel
theorem dX10_rest_15 : decode cX10_rest 15 = .ok (.astore_n 2, 1) := by decide +kernel
theorem dX10_rest_16 : decode cX10_rest 16 = .ok (.aload_n 2, 1) := by decide +kernel
theorem dX10_rest_17 : decode cX10_rest 17 = .ok (.invokevirtual 356, 3) := by decide +kernel
theorem dX10_rest_20 : decode cX10_rest 20 = .ok (.ifCond .eq 6, 3) := by decide +kernel
theorem dX10_rest_23 : decode cX10_rest 23 = .ok (.bipush (-11), 2) := by decide +kernel
theorem dX10_rest_25 : decode cX10_rest 25 = .ok (.ireturn, 1) := by decide +kernel
theorem dX10_rest_26 : decode cX10_rest 26 = .ok (.aload_n 2, 1) := by decide +kernel
theorem dX10_rest_27 : decode cX10_rest 27 = .ok (.getfield 359, 3) := by decide +kernel
theorem dX10_rest_30 : decode cX10_rest 30 = .ok (.invokestatic 98, 3) := by decide +kernel
theorem dX10_rest_33 : decode cX10_rest 33 = .ok (.ifCond .ne 6, 3) := by decide +kernel
theorem dX10_rest_36 : decode cX10_rest 36 = .ok (.bipush (-13), 2) := by decide +kernel
theorem dX10_rest_38 : decode cX10_rest 38 = .ok (.ireturn, 1) := by decide +kernel
theorem dX10_rest_39 : decode cX10_rest 39 = .ok (.iconst 0, 1) := by decide +kernel
theorem dX10_rest_40 : decode cX10_rest 40 = .ok (.istore_n 3, 1) := by decide +kernel
theorem dX10_rest_41 : decode cX10_rest 41 = .ok (.iload_n 3, 1) := by decide +kernel
theorem dX10_rest_42 : decode cX10_rest 42 = .ok (.iconst 3, 1) := by decide +kernel
theorem dX10_rest_43 : decode cX10_rest 43 = .ok (.if_icmp .ge 21, 3) := by decide +kernel
theorem dX10_rest_46 : decode cX10_rest 46 = .ok (.aload_n 0, 1) := by decide +kernel
theorem dX10_rest_47 : decode cX10_rest 47 = .ok (.getfield 89, 3) := by decide +kernel
theorem dX10_rest_50 : decode cX10_rest 50 = .ok (.iload_n 3, 1) := by decide +kernel
theorem dX10_rest_51 : decode cX10_rest 51 = .ok (.aload_n 2, 1) := by decide +kernel
theorem dX10_rest_52 : decode cX10_rest 52 = .ok (.getfield 362, 3) := by decide +kernel
theorem dX10_rest_55 : decode cX10_rest 55 = .ok (.iload_n 3, 1) := by decide +kernel
theorem dX10_rest_56 : decode cX10_rest 56 = .ok (.laload, 1) := by decide +kernel
theorem dX10_rest_57 : decode cX10_rest 57 = .ok (.lastore, 1) := by decide +kernel
theorem dX10_rest_58 : decode cX10_rest 58 = .ok (.iinc 3 1, 3) := by decide +kernel
theorem dX10_rest_61 : decode cX10_rest 61 = .ok (.goto (-20), 3) := by decide +kernel
theorem dX10_rest_64 : decode cX10_rest 64 = .ok (.aload_n 0, 1) := by decide +kernel
theorem dX10_rest_65 : decode cX10_rest 65 = .ok (.getfield 10, 3) := by decide +kernel
theorem dX10_rest_68 : decode cX10_rest 68 = .ok (.aload_n 2, 1) := by decide +kernel
theorem dX10_rest_69 : decode cX10_rest 69 = .ok (.getfield 359, 3) := by decide +kernel
theorem dX10_rest_72 : decode cX10_rest 72 = .ok (.aload_n 0, 1) := by decide +kernel
theorem dX10_rest_73 : decode cX10_rest 73 = .ok (.getfield 69, 3) := by decide +kernel
theorem dX10_rest_76 : decode cX10_rest 76 = .ok (.invokevirtual 137, 3) := by decide +kernel
theorem dX10_rest_79 : decode cX10_rest 79 = .ok (.aload_n 0, 1) := by decide +kernel
theorem dX10_rest_80 : decode cX10_rest 80 = .ok (.getfield 69, 3) := by decide +kernel
theorem dX10_rest_83 : decode cX10_rest 83 = .ok (.aload_n 0, 1) := by decide +kernel
theorem dX10_rest_84 : decode cX10_rest 84 = .ok (.getfield 89, 3) := by decide +kernel
theorem dX10_rest_87 : decode cX10_rest 87 = .ok (.invokevirtual 163, 3) := by decide +kernel
theorem dX10_rest_90 : decode cX10_rest 90 = .ok (.aload_n 0, 1) := by decide +kernel
theorem dX10_rest_91 : decode cX10_rest 91 = .ok (.aload_n 2, 1) := by decide +kernel
theorem dX10_rest_92 : decode cX10_rest 92 = .ok (.invokevirtual 363, 3) := by decide +kernel
theorem dX10_rest_95 : decode cX10_rest 95 = .ok (.ireturn, 1) := by decide +kernel
theorem dX10_lies_0 : decode cX10_lies 0 = .ok (.iload_n 1, 1) := by decide +kernel
theorem dX10_lies_1 : decode cX10_lies 1 = .ok (.invokestatic 344, 3) := by decide +kernel
theorem dX10_lies_4 : decode cX10_lies 4 = .ok (.ifCond .eq 12, 3) := by decide +kernel
theorem dX10_lies_7 : decode cX10_lies 7 = .ok (.iload_n 2, 1) := by decide +kernel
theorem dX10_lies_8 : decode cX10_lies 8 = .ok (.ifCond .lt 8, 3) := by decide +kernel
theorem dX10_lies_11 : decode cX10_lies 11 = .ok (.iload_n 2, 1) := by decide +kernel
theorem dX10_lies_12 : decode cX10_lies 12 = .ok (.iconst 3, 1) := by decide +kernel
theorem dX10_lies_13 : decode cX10_lies 13 = .ok (.if_icmp .le 8, 3) := by decide +kernel
theorem dX10_lies_16 : decode cX10_lies 16 = .ok (.iconst (-1), 1) := by decide +kernel
theorem dX10_lies_17 : decode cX10_lies 17 = .ok (.invokestatic 160, 3) := by decide +kernel
theorem dX10_lies_20 : decode cX10_lies 20 = .ok (.lreturn, 1) := by decide +kernel
theorem dX10_lies_21 : decode cX10_lies 21 = .ok (.aload_n 0, 1) := by decide +kernel
theorem dX10_lies_22 : decode cX10_lies 22 = .ok (.getfield 52, 3) := by decide +kernel
theorem dX10_lies_25 : decode cX10_lies 25 = .ok (.iload_n 1, 1) := by decide +kernel
theorem dX10_lies_26 : decode cX10_lies 26 = .ok (.aaload, 1) := by decide +kernel
theorem dX10_lies_27 : decode cX10_lies 27 = .ok (.astore_n 3, 1) := by decide +kernel
theorem dX10_lies_28 : decode cX10_lies 28 = .ok (.aload_n 3, 1) := by decide +kernel
theorem dX10_lies_29 : decode cX10_lies 29 = .ok (.invokevirtual 356, 3) := by decide +kernel
theorem dX10_lies_32 : decode cX10_lies 32 = .ok (.ifCond .eq 9, 3) := by decide +kernel
theorem dX10_lies_35 : decode cX10_lies 35 = .ok (.bipush (-11), 2) := by decide +kernel
theorem dX10_lies_37 : decode cX10_lies 37 = .ok (.invokestatic 160, 3) := by decide +kernel
theorem dX10_lies_40 : decode cX10_lies 40 = .ok (.lreturn, 1) := by decide +kernel
theorem dX10_lies_41 : decode cX10_lies 41 = .ok (.aload_n 3, 1) := by decide +kernel
theorem dX10_lies_42 : decode cX10_lies 42 = .ok (.getfield 359, 3) := by decide +kernel
theorem dX10_lies_45 : decode cX10_lies 45 = .ok (.iconst (-1), 1) := by decide +kernel
theorem dX10_lies_46 : decode cX10_lies 46 = .ok (.if_icmp .ne 9, 3) := by decide +kernel
theorem dX10_lies_49 : decode cX10_lies 49 = .ok (.bipush (-13), 2) := by decide +kernel
theorem dX10_lies_51 : decode cX10_lies 51 = .ok (.invokestatic 160, 3) := by decide +kernel
theorem dX10_lies_54 : decode cX10_lies 54 = .ok (.lreturn, 1) := by decide +kernel
theorem dX10_lies_55 : decode cX10_lies 55 = .ok (.iload_n 2, 1) := by decide +kernel
theorem dX10_lies_56 : decode cX10_lies 56 = .ok (.iconst 3, 1) := by decide +kernel
theorem dX10_lies_57 : decode cX10_lies 57 = .ok (.if_icmp .ne 11, 3) := by decide +kernel
theorem dX10_lies_60 : decode cX10_lies 60 = .ok (.aload_n 3, 1) := by decide +kernel
theorem dX10_lies_61 : decode cX10_lies 61 = .ok (.getfield 359, 3) := by decide +kernel
theorem dX10_lies_64 : decode cX10_lies 64 = .ok (.i2l, 1) := by decide +kernel
theorem dX10_lies_65 : decode cX10_lies 65 = .ok (.goto 9, 3) := by decide +kernel
theorem dX10_lies_68 : decode cX10_lies 68 = .ok (.aload_n 3, 1) := by decide +kernel
theorem dX10_lies_69 : decode cX10_lies 69 = .ok (.getfield 362, 3) := by decide +kernel
theorem dX10_lies_72 : decode cX10_lies 72 = .ok (.iload_n 2, 1) := by decide +kernel
theorem dX10_lies_73 : decode cX10_lies 73 = .ok (.laload, 1) := by decide +kernel
theorem dX10_lies_74 : decode cX10_lies 74 = .ok (.lreturn, 1) := by decide +kernel
theorem dX10_taken_0 : decode cX10_taken 0 = .ok (.iload_n 2, 1) := by decide +kernel
theorem dX10_taken_1 : decode cX10_taken 1 = .ok (.bipush 10, 2) := by decide +kernel
theorem dX10_taken_3 : decode cX10_taken 3 = .ok (.if_icmp .lt 13, 3) := by decide +kernel
theorem dX10_taken_6 : decode cX10_taken 6 = .ok (.iload_n 2, 1) := by decide +kernel
theorem dX10_taken_7 : decode cX10_taken 7 = .ok (.bipush 12, 2) := by decide +kernel
theorem dX10_taken_9 : decode cX10_taken 9 = .ok (.if_icmp .gt 7, 3) := by decide +kernel
theorem dX10_taken_12 : decode cX10_taken 12 = .ok (.iconst 1, 1) := by decide +kernel
theorem dX10_taken_13 : decode cX10_taken 13 = .ok (.goto 4, 3) := by decide +kernel
theorem dX10_taken_16 : decode cX10_taken 16 = .ok (.iconst 0, 1) := by decide +kernel
theorem dX10_taken_17 : decode cX10_taken 17 = .ok (.istore_n 3, 1) := by decide +kernel
theorem dX10_taken_18 : decode cX10_taken 18 = .ok (.iload_n 1, 1) := by decide +kernel
theorem dX10_taken_19 : decode cX10_taken 19 = .ok (.invokestatic 344, 3) := by decide +kernel
theorem dX10_taken_22 : decode cX10_taken 22 = .ok (.ifCond .eq 14, 3) := by decide +kernel
theorem dX10_taken_25 : decode cX10_taken 25 = .ok (.iload_n 2, 1) := by decide +kernel
theorem dX10_taken_26 : decode cX10_taken 26 = .ok (.invokestatic 98, 3) := by decide +kernel
theorem dX10_taken_29 : decode cX10_taken 29 = .ok (.ifCond .ne 9, 3) := by decide +kernel
theorem dX10_taken_32 : decode cX10_taken 32 = .ok (.iload_n 3, 1) := by decide +kernel
theorem dX10_taken_33 : decode cX10_taken 33 = .ok (.ifCond .ne 5, 3) := by decide +kernel
theorem dX10_taken_36 : decode cX10_taken 36 = .ok (.iconst (-1), 1) := by decide +kernel
theorem dX10_taken_37 : decode cX10_taken 37 = .ok (.ireturn, 1) := by decide +kernel
theorem dX10_taken_38 : decode cX10_taken 38 = .ok (.aload_n 0, 1) := by decide +kernel
theorem dX10_taken_39 : decode cX10_taken 39 = .ok (.getfield 52, 3) := by decide +kernel
theorem dX10_taken_42 : decode cX10_taken 42 = .ok (.iload_n 1, 1) := by decide +kernel
theorem dX10_taken_43 : decode cX10_taken 43 = .ok (.aaload, 1) := by decide +kernel
theorem dX10_taken_44 : decode cX10_taken 44 = .ok (.astore 4, 2) := by decide +kernel
theorem dX10_taken_46 : decode cX10_taken 46 = .ok (.aload 4, 2) := by decide +kernel
theorem dX10_taken_48 : decode cX10_taken 48 = .ok (.invokevirtual 356, 3) := by decide +kernel
theorem dX10_taken_51 : decode cX10_taken 51 = .ok (.ifCond .eq 6, 3) := by decide +kernel
theorem dX10_taken_54 : decode cX10_taken 54 = .ok (.bipush (-11), 2) := by decide +kernel
theorem dX10_taken_56 : decode cX10_taken 56 = .ok (.ireturn, 1) := by decide +kernel
theorem dX10_taken_57 : decode cX10_taken 57 = .ok (.iload_n 3, 1) := by decide +kernel
theorem dX10_taken_58 : decode cX10_taken 58 = .ok (.ifCond .eq 26, 3) := by decide +kernel
theorem dX10_taken_61 : decode cX10_taken 61 = .ok (.aload 4, 2) := by decide +kernel
theorem dX10_taken_63 : decode cX10_taken 63 = .ok (.getfield 367, 3) := by decide +kernel
theorem dX10_taken_66 : decode cX10_taken 66 = .ok (.iload_n 2, 1) := by decide +kernel
theorem dX10_taken_67 : decode cX10_taken 67 = .ok (.bipush 10, 2) := by decide +kernel
theorem dX10_taken_69 : decode cX10_taken 69 = .ok (.isub, 1) := by decide +kernel
theorem dX10_taken_70 : decode cX10_taken 70 = .ok (.if_icmp .ne 11, 3) := by decide +kernel
theorem dX10_taken_73 : decode cX10_taken 73 = .ok (.aload 4, 2) := by decide +kernel
theorem dX10_taken_75 : decode cX10_taken 75 = .ok (.getfield 368, 3) := by decide +kernel
theorem dX10_taken_78 : decode cX10_taken 78 = .ok (.goto 5, 3) := by decide +kernel
theorem dX10_taken_81 : decode cX10_taken 81 = .ok (.bipush (-13), 2) := by decide +kernel
theorem dX10_taken_83 : decode cX10_taken 83 = .ok (.ireturn, 1) := by decide +kernel
theorem dX10_taken_84 : decode cX10_taken 84 = .ok (.aload 4, 2) := by decide +kernel
theorem dX10_taken_86 : decode cX10_taken 86 = .ok (.getfield 359, 3) := by decide +kernel
theorem dX10_taken_89 : decode cX10_taken 89 = .ok (.iload_n 2, 1) := by decide +kernel
theorem dX10_taken_90 : decode cX10_taken 90 = .ok (.if_icmp .ne 7, 3) := by decide +kernel
theorem dX10_taken_93 : decode cX10_taken 93 = .ok (.iconst 1, 1) := by decide +kernel
theorem dX10_taken_94 : decode cX10_taken 94 = .ok (.goto 5, 3) := by decide +kernel
theorem dX10_taken_97 : decode cX10_taken 97 = .ok (.bipush (-13), 2) := by decide +kernel
theorem dX10_taken_99 : decode cX10_taken 99 = .ok (.ireturn, 1) := by decide +kernel
theorem dX10_many_0 : decode cX10_many 0 = .ok (.iload_n 1, 1) := by decide +kernel
theorem dX10_many_1 : decode cX10_many 1 = .ok (.tableswitch 102 0 6 #[43, 54, 65, 73, 78, 86, 94], 43) := by decide +kernel
theorem dX10_many_44 : decode cX10_many 44 = .ok (.aload_n 0, 1) := by decide +kernel
theorem dX10_many_45 : decode cX10_many 45 = .ok (.getfield 10, 3) := by decide +kernel
theorem dX10_many_48 : decode cX10_many 48 = .ok (.getfield 106, 3) := by decide +kernel
theorem dX10_many_51 : decode cX10_many 51 = .ok (.invokestatic 369, 3) := by decide +kernel
theorem dX10_many_54 : decode cX10_many 54 = .ok (.ireturn, 1) := by decide +kernel
theorem dX10_many_55 : decode cX10_many 55 = .ok (.aload_n 0, 1) := by decide +kernel
theorem dX10_many_56 : decode cX10_many 56 = .ok (.getfield 10, 3) := by decide +kernel
theorem dX10_many_59 : decode cX10_many 59 = .ok (.getfield 118, 3) := by decide +kernel
theorem dX10_many_62 : decode cX10_many 62 = .ok (.invokestatic 369, 3) := by decide +kernel
theorem dX10_many_65 : decode cX10_many 65 = .ok (.ireturn, 1) := by decide +kernel
theorem dX10_many_66 : decode cX10_many 66 = .ok (.aload_n 0, 1) := by decide +kernel
theorem dX10_many_67 : decode cX10_many 67 = .ok (.getfield 10, 3) := by decide +kernel
theorem dX10_many_70 : decode cX10_many 70 = .ok (.invokevirtual 373, 3) := by decide +kernel
theorem dX10_many_73 : decode cX10_many 73 = .ok (.ireturn, 1) := by decide +kernel
theorem dX10_many_74 : decode cX10_many 74 = .ok (.aload_n 0, 1) := by decide +kernel
theorem dX10_many_75 : decode cX10_many 75 = .ok (.invokevirtual 376, 3) := by decide +kernel
theorem dX10_many_78 : decode cX10_many 78 = .ok (.ireturn, 1) := by decide +kernel
theorem dX10_many_79 : decode cX10_many 79 = .ok (.aload_n 0, 1) := by decide +kernel
theorem dX10_many_80 : decode cX10_many 80 = .ok (.getfield 10, 3) := by decide +kernel
theorem dX10_many_83 : decode cX10_many 83 = .ok (.getfield 321, 3) := by decide +kernel
theorem dX10_many_86 : decode cX10_many 86 = .ok (.ireturn, 1) := by decide +kernel
theorem dX10_many_87 : decode cX10_many 87 = .ok (.aload_n 0, 1) := by decide +kernel
theorem dX10_many_88 : decode cX10_many 88 = .ok (.getfield 26, 3) := by decide +kernel
theorem dX10_many_91 : decode cX10_many 91 = .ok (.getfield 334, 3) := by decide +kernel
theorem dX10_many_94 : decode cX10_many 94 = .ok (.ireturn, 1) := by decide +kernel
theorem dX10_many_95 : decode cX10_many 95 = .ok (.aload_n 0, 1) := by decide +kernel
theorem dX10_many_96 : decode cX10_many 96 = .ok (.getfield 33, 3) := by decide +kernel
theorem dX10_many_99 : decode cX10_many 99 = .ok (.getfield 266, 3) := by decide +kernel
theorem dX10_many_102 : decode cX10_many 102 = .ok (.ireturn, 1) := by decide +kernel
theorem dX10_many_103 : decode cX10_many 103 = .ok (.iconst (-1), 1) := by decide +kernel
theorem dX10_many_104 : decode cX10_many 104 = .ok (.ireturn, 1) := by decide +kernel
theorem dX10_keep_0 : decode cX10_keep 0 = .ok (.aload_n 0, 1) := by decide +kernel
theorem dX10_keep_1 : decode cX10_keep 1 = .ok (.getfield 16, 3) := by decide +kernel
theorem dX10_keep_4 : decode cX10_keep 4 = .ok (.aload_n 0, 1) := by decide +kernel
theorem dX10_keep_5 : decode cX10_keep 5 = .ok (.getfield 10, 3) := by decide +kernel
theorem dX10_keep_8 : decode cX10_keep 8 = .ok (.invokevirtual 379, 3) := by decide +kernel
theorem dX10_keep_11 : decode cX10_keep 11 = .ok (.aload_n 0, 1) := by decide +kernel
theorem dX10_keep_12 : decode cX10_keep 12 = .ok (.iconst 1, 1) := by decide +kernel
theorem dX10_keep_13 : decode cX10_keep 13 = .ok (.putfield 19, 3) := by decide +kernel
theorem dX10_keep_16 : decode cX10_keep 16 = .ok (.iconst 1, 1) := by decide +kernel
theorem dX10_keep_17 : decode cX10_keep 17 = .ok (.ireturn, 1) := by decide +kernel
theorem dX10_again_0 : decode cX10_again 0 = .ok (.aload_n 0, 1) := by decide +kernel
theorem dX10_again_1 : decode cX10_again 1 = .ok (.getfield 19, 3) := by decide +kernel
theorem dX10_again_4 : decode cX10_again 4 = .ok (.ifCond .ne 6, 3) := by decide +kernel
theorem dX10_again_7 : decode cX10_again 7 = .ok (.bipush (-3), 2) := by decide +kernel
theorem dX10_again_9 : decode cX10_again 9 = .ok (.ireturn, 1) := by decide +kernel
theorem dX10_again_10 : decode cX10_again 10 = .ok (.aload_n 0, 1) := by decide +kernel
theorem dX10_again_11 : decode cX10_again 11 = .ok (.getfield 10, 3) := by decide +kernel
theorem dX10_again_14 : decode cX10_again 14 = .ok (.aload_n 0, 1) := by decide +kernel
theorem dX10_again_15 : decode cX10_again 15 = .ok (.getfield 16, 3) := by decide +kernel
theorem dX10_again_18 : decode cX10_again 18 = .ok (.invokevirtual 379, 3) := by decide +kernel
theorem dX10_again_21 : decode cX10_again 21 = .ok (.aload_n 0, 1) := by decide +kernel
theorem dX10_again_22 : decode cX10_again 22 = .ok (.getfield 26, 3) := by decide +kernel
theorem dX10_again_25 : decode cX10_again 25 = .ok (.invokevirtual 382, 3) := by decide +kernel
theorem dX10_again_28 : decode cX10_again 28 = .ok (.aload_n 0, 1) := by decide +kernel
theorem dX10_again_29 : decode cX10_again 29 = .ok (.getfield 10, 3) := by decide +kernel
theorem dX10_again_32 : decode cX10_again 32 = .ok (.invokevirtual 373, 3) := by decide +kernel
theorem dX10_again_35 : decode cX10_again 35 = .ok (.ireturn, 1) := by decide +kernel
theorem dX10_isGroup_0 : decode cX10_isGroup 0 = .ok (.iload_n 0, 1) := by decide +kernel
theorem dX10_isGroup_1 : decode cX10_isGroup 1 = .ok (.ifCond .lt 13, 3) := by decide +kernel
theorem dX10_isGroup_4 : decode cX10_isGroup 4 = .ok (.iload_n 0, 1) := by decide +kernel
theorem dX10_isGroup_5 : decode cX10_isGroup 5 = .ok (.bipush 6, 2) := by decide +kernel
theorem dX10_isGroup_7 : decode cX10_isGroup 7 = .ok (.if_icmp .ge 7, 3) := by decide +kernel
theorem dX10_isGroup_10 : decode cX10_isGroup 10 = .ok (.iconst 1, 1) := by decide +kernel
theorem dX10_isGroup_11 : decode cX10_isGroup 11 = .ok (.goto 4, 3) := by decide +kernel
theorem dX10_isGroup_14 : decode cX10_isGroup 14 = .ok (.iconst 0, 1) := by decide +kernel
theorem dX10_isGroup_15 : decode cX10_isGroup 15 = .ok (.ireturn, 1) := by decide +kernel
theorem dX10_isMapNumber_0 : decode cX10_isMapNumber 0 = .ok (.iload_n 0, 1) := by decide +kernel
theorem dX10_isMapNumber_1 : decode cX10_isMapNumber 1 = .ok (.ifCond .lt 13, 3) := by decide +kernel
theorem dX10_isMapNumber_4 : decode cX10_isMapNumber 4 = .ok (.iload_n 0, 1) := by decide +kernel
theorem dX10_isMapNumber_5 : decode cX10_isMapNumber 5 = .ok (.bipush 8, 2) := by decide +kernel
theorem dX10_isMapNumber_7 : decode cX10_isMapNumber 7 = .ok (.if_icmp .ge 7, 3) := by decide +kernel
theorem dX10_isMapNumber_10 : decode cX10_isMapNumber 10 = .ok (.iconst 1, 1) := by decide +kernel
theorem dX10_isMapNumber_11 : decode cX10_isMapNumber 11 = .ok (.goto 4, 3) := by decide +kernel
theorem dX10_isMapNumber_14 : decode cX10_isMapNumber 14 = .ok (.iconst 0, 1) := by decide +kernel
theorem dX10_isMapNumber_15 : decode cX10_isMapNumber 15 = .ok (.ireturn, 1) := by decide +kernel
theorem dX10_isSheet_0 : decode cX10_isSheet 0 = .ok (.iload_n 0, 1) := by decide +kernel
theorem dX10_isSheet_1 : decode cX10_isSheet 1 = .ok (.ifCond .lt 12, 3) := by decide +kernel
theorem dX10_isSheet_4 : decode cX10_isSheet 4 = .ok (.iload_n 0, 1) := by decide +kernel
theorem dX10_isSheet_5 : decode cX10_isSheet 5 = .ok (.iconst 4, 1) := by decide +kernel
theorem dX10_isSheet_6 : decode cX10_isSheet 6 = .ok (.if_icmp .ge 7, 3) := by decide +kernel
theorem dX10_isSheet_9 : decode cX10_isSheet 9 = .ok (.iconst 1, 1) := by decide +kernel
theorem dX10_isSheet_10 : decode cX10_isSheet 10 = .ok (.goto 4, 3) := by decide +kernel
theorem dX10_isSheet_13 : decode cX10_isSheet 13 = .ok (.iconst 0, 1) := by decide +kernel
theorem dX10_isSheet_14 : decode cX10_isSheet 14 = .ok (.ireturn, 1) := by decide +kernel
theorem dX10_isShelf_0 : decode cX10_isShelf 0 = .ok (.iload_n 0, 1) := by decide +kernel
theorem dX10_isShelf_1 : decode cX10_isShelf 1 = .ok (.ifCond .lt 12, 3) := by decide +kernel
theorem dX10_isShelf_4 : decode cX10_isShelf 4 = .ok (.iload_n 0, 1) := by decide +kernel
theorem dX10_isShelf_5 : decode cX10_isShelf 5 = .ok (.iconst 4, 1) := by decide +kernel
theorem dX10_isShelf_6 : decode cX10_isShelf 6 = .ok (.if_icmp .ge 7, 3) := by decide +kernel
theorem dX10_isShelf_9 : decode cX10_isShelf 9 = .ok (.iconst 1, 1) := by decide +kernel
theorem dX10_isShelf_10 : decode cX10_isShelf 10 = .ok (.goto 4, 3) := by decide +kernel
theorem dX10_isShelf_13 : decode cX10_isShelf 13 = .ok (.iconst 0, 1) := by decide +kernel
theorem dX10_isShelf_14 : decode cX10_isShelf 14 = .ok (.ireturn, 1) := by decide +kernel
theorem dX10_isElement_0 : decode cX10_isElement 0 = .ok (.iload_n 0, 1) := by decide +kernel
theorem dX10_isElement_1 : decode cX10_isElement 1 = .ok (.iload_n 1, 1) := by decide +kernel
theorem dX10_isElement_2 : decode cX10_isElement 2 = .ok (.iload_n 2, 1) := by decide +kernel
theorem dX10_isElement_3 : decode cX10_isElement 3 = .ok (.sipush 999, 3) := by decide +kernel
theorem dX10_isElement_6 : decode cX10_isElement 6 = .ok (.invokestatic 114, 3) := by decide +kernel
theorem dX10_isElement_9 : decode cX10_isElement 9 = .ok (.ireturn, 1) := by decide +kernel
theorem dX10_areWithin_0 : decode cX10_areWithin 0 = .ok (.iload_n 0, 1) := by decide +kernel
theorem dX10_areWithin_1 : decode cX10_areWithin 1 = .ok (.i2l, 1) := by decide +kernel
theorem dX10_areWithin_2 : decode cX10_areWithin 2 = .ok (.iload_n 3, 1) := by decide +kernel
theorem dX10_areWithin_3 : decode cX10_areWithin 3 = .ok (.i2l, 1) := by decide +kernel
theorem dX10_areWithin_4 : decode cX10_areWithin 4 = .ok (.invokestatic 385, 3) := by decide +kernel
theorem dX10_areWithin_7 : decode cX10_areWithin 7 = .ok (.ifCond .eq 27, 3) := by decide +kernel
theorem dX10_areWithin_10 : decode cX10_areWithin 10 = .ok (.iload_n 1, 1) := by decide +kernel
theorem dX10_areWithin_11 : decode cX10_areWithin 11 = .ok (.i2l, 1) := by decide +kernel
theorem dX10_areWithin_12 : decode cX10_areWithin 12 = .ok (.iload_n 3, 1) := by decide +kernel
theorem dX10_areWithin_13 : decode cX10_areWithin 13 = .ok (.i2l, 1) := by decide +kernel
theorem dX10_areWithin_14 : decode cX10_areWithin 14 = .ok (.invokestatic 385, 3) := by decide +kernel
theorem dX10_areWithin_17 : decode cX10_areWithin 17 = .ok (.ifCond .eq 17, 3) := by decide +kernel
theorem dX10_areWithin_20 : decode cX10_areWithin 20 = .ok (.iload_n 2, 1) := by decide +kernel
theorem dX10_areWithin_21 : decode cX10_areWithin 21 = .ok (.i2l, 1) := by decide +kernel
theorem dX10_areWithin_22 : decode cX10_areWithin 22 = .ok (.iload_n 3, 1) := by decide +kernel
theorem dX10_areWithin_23 : decode cX10_areWithin 23 = .ok (.i2l, 1) := by decide +kernel
theorem dX10_areWithin_24 : decode cX10_areWithin 24 = .ok (.invokestatic 385, 3) := by decide +kernel
theorem dX10_areWithin_27 : decode cX10_areWithin 27 = .ok (.ifCond .eq 7, 3) := by decide +kernel
theorem dX10_areWithin_30 : decode cX10_areWithin 30 = .ok (.iconst 1, 1) := by decide +kernel
theorem dX10_areWithin_31 : decode cX10_areWithin 31 = .ok (.goto 4, 3) := by decide +kernel
theorem dX10_areWithin_34 : decode cX10_areWithin 34 = .ok (.iconst 0, 1) := by decide +kernel
theorem dX10_areWithin_35 : decode cX10_areWithin 35 = .ok (.ireturn, 1) := by decide +kernel
theorem dX10_isWithin_0 : decode cX10_isWithin 0 = .ok (.lload_n 0, 1) := by decide +kernel
theorem dX10_isWithin_1 : decode cX10_isWithin 1 = .ok (.lload_n 2, 1) := by decide +kernel
theorem dX10_isWithin_2 : decode cX10_isWithin 2 = .ok (.lneg, 1) := by decide +kernel
theorem dX10_isWithin_3 : decode cX10_isWithin 3 = .ok (.lcmp, 1) := by decide +kernel
theorem dX10_isWithin_4 : decode cX10_isWithin 4 = .ok (.ifCond .lt 13, 3) := by decide +kernel
theorem dX10_isWithin_7 : decode cX10_isWithin 7 = .ok (.lload_n 0, 1) := by decide +kernel
theorem dX10_isWithin_8 : decode cX10_isWithin 8 = .ok (.lload_n 2, 1) := by decide +kernel
theorem dX10_isWithin_9 : decode cX10_isWithin 9 = .ok (.lcmp, 1) := by decide +kernel
theorem dX10_isWithin_10 : decode cX10_isWithin 10 = .ok (.ifCond .gt 7, 3) := by decide +kernel
theorem dX10_isWithin_13 : decode cX10_isWithin 13 = .ok (.iconst 1, 1) := by decide +kernel
theorem dX10_isWithin_14 : decode cX10_isWithin 14 = .ok (.goto 4, 3) := by decide +kernel
theorem dX10_isWithin_17 : decode cX10_isWithin 17 = .ok (.iconst 0, 1) := by decide +kernel
theorem dX10_isWithin_18 : decode cX10_isWithin 18 = .ok (.ireturn, 1) := by decide +kernel
theorem dX10_isPlace_0 : decode cX10_isPlace 0 = .ok (.iload_n 1, 1) := by decide +kernel
theorem dX10_isPlace_1 : decode cX10_isPlace 1 = .ok (.invokestatic 98, 3) := by decide +kernel
theorem dX10_isPlace_4 : decode cX10_isPlace 4 = .ok (.ifCond .eq 24, 3) := by decide +kernel
theorem dX10_isPlace_7 : decode cX10_isPlace 7 = .ok (.iload_n 2, 1) := by decide +kernel
theorem dX10_isPlace_8 : decode cX10_isPlace 8 = .ok (.ifCond .lt 20, 3) := by decide +kernel
theorem dX10_isPlace_11 : decode cX10_isPlace 11 = .ok (.iload_n 2, 1) := by decide +kernel
theorem dX10_isPlace_12 : decode cX10_isPlace 12 = .ok (.aload_n 0, 1) := by decide +kernel
theorem dX10_isPlace_13 : decode cX10_isPlace 13 = .ok (.getfield 10, 3) := by decide +kernel
theorem dX10_isPlace_16 : decode cX10_isPlace 16 = .ok (.getfield 106, 3) := by decide +kernel
theorem dX10_isPlace_19 : decode cX10_isPlace 19 = .ok (.iload_n 1, 1) := by decide +kernel
theorem dX10_isPlace_20 : decode cX10_isPlace 20 = .ok (.iaload, 1) := by decide +kernel
theorem dX10_isPlace_21 : decode cX10_isPlace 21 = .ok (.if_icmp .ge 7, 3) := by decide +kernel
theorem dX10_isPlace_24 : decode cX10_isPlace 24 = .ok (.iconst 1, 1) := by decide +kernel
theorem dX10_isPlace_25 : decode cX10_isPlace 25 = .ok (.goto 4, 3) := by decide +kernel
theorem dX10_isPlace_28 : decode cX10_isPlace 28 = .ok (.iconst 0, 1) := by decide +kernel
theorem dX10_isPlace_29 : decode cX10_isPlace 29 = .ok (.ireturn, 1) := by decide +kernel
theorem dX10_isMap_0 : decode cX10_isMap 0 = .ok (.aload_n 0, 1) := by decide +kernel
theorem dX10_isMap_1 : decode cX10_isMap 1 = .ok (.getfield 10, 3) := by decide +kernel
theorem dX10_isMap_4 : decode cX10_isMap 4 = .ok (.iload_n 1, 1) := by decide +kernel
theorem dX10_isMap_5 : decode cX10_isMap 5 = .ok (.invokevirtual 388, 3) := by decide +kernel
theorem dX10_isMap_8 : decode cX10_isMap 8 = .ok (.ireturn, 1) := by decide +kernel
theorem dX10_isCell_0 : decode cX10_isCell 0 = .ok (.aload_n 0, 1) := by decide +kernel
theorem dX10_isCell_1 : decode cX10_isCell 1 = .ok (.iload_n 1, 1) := by decide +kernel
theorem dX10_isCell_2 : decode cX10_isCell 2 = .ok (.invokevirtual 218, 3) := by decide +kernel
theorem dX10_isCell_5 : decode cX10_isCell 5 = .ok (.ifCond .eq 41, 3) := by decide +kernel
theorem dX10_isCell_8 : decode cX10_isCell 8 = .ok (.aload_n 0, 1) := by decide +kernel
theorem dX10_isCell_9 : decode cX10_isCell 9 = .ok (.aload_n 0, 1) := by decide +kernel
theorem dX10_isCell_10 : decode cX10_isCell 10 = .ok (.getfield 10, 3) := by decide +kernel
theorem dX10_isCell_13 : decode cX10_isCell 13 = .ok (.getfield 221, 3) := by decide +kernel
theorem dX10_isCell_16 : decode cX10_isCell 16 = .ok (.iload_n 1, 1) := by decide +kernel
theorem dX10_isCell_17 : decode cX10_isCell 17 = .ok (.iaload, 1) := by decide +kernel
theorem dX10_isCell_18 : decode cX10_isCell 18 = .ok (.iload_n 2, 1) := by decide +kernel
theorem dX10_isCell_19 : decode cX10_isCell 19 = .ok (.invokevirtual 145, 3) := by decide +kernel
theorem dX10_isCell_22 : decode cX10_isCell 22 = .ok (.ifCond .eq 24, 3) := by decide +kernel
theorem dX10_isCell_25 : decode cX10_isCell 25 = .ok (.aload_n 0, 1) := by decide +kernel
theorem dX10_isCell_26 : decode cX10_isCell 26 = .ok (.aload_n 0, 1) := by decide +kernel
theorem dX10_isCell_27 : decode cX10_isCell 27 = .ok (.getfield 10, 3) := by decide +kernel
theorem dX10_isCell_30 : decode cX10_isCell 30 = .ok (.getfield 224, 3) := by decide +kernel
theorem dX10_isCell_33 : decode cX10_isCell 33 = .ok (.iload_n 1, 1) := by decide +kernel
theorem dX10_isCell_34 : decode cX10_isCell 34 = .ok (.iaload, 1) := by decide +kernel
theorem dX10_isCell_35 : decode cX10_isCell 35 = .ok (.iload_n 3, 1) := by decide +kernel
theorem dX10_isCell_36 : decode cX10_isCell 36 = .ok (.invokevirtual 145, 3) := by decide +kernel
theorem dX10_isCell_39 : decode cX10_isCell 39 = .ok (.ifCond .eq 7, 3) := by decide +kernel
theorem dX10_isCell_42 : decode cX10_isCell 42 = .ok (.iconst 1, 1) := by decide +kernel
theorem dX10_isCell_43 : decode cX10_isCell 43 = .ok (.goto 4, 3) := by decide +kernel
theorem dX10_isCell_46 : decode cX10_isCell 46 = .ok (.iconst 0, 1) := by decide +kernel
theorem dX10_isCell_47 : decode cX10_isCell 47 = .ok (.ireturn, 1) := by decide +kernel
theorem dX10_isMove_0 : decode cX10_isMove 0 = .ok (.iload_n 1, 1) := by decide +kernel
theorem dX10_isMove_1 : decode cX10_isMove 1 = .ok (.tableswitch 63 0 3 #[31, 46, 55, 61], 31) := by decide +kernel
theorem dX10_isMove_32 : decode cX10_isMove 32 = .ok (.iload_n 2, 1) := by decide +kernel
theorem dX10_isMove_33 : decode cX10_isMove 33 = .ok (.ifCond .lt 12, 3) := by decide +kernel
theorem dX10_isMove_36 : decode cX10_isMove 36 = .ok (.iload_n 2, 1) := by decide +kernel
theorem dX10_isMove_37 : decode cX10_isMove 37 = .ok (.iconst 3, 1) := by decide +kernel
theorem dX10_isMove_38 : decode cX10_isMove 38 = .ok (.if_icmp .ge 7, 3) := by decide +kernel
theorem dX10_isMove_41 : decode cX10_isMove 41 = .ok (.iconst 1, 1) := by decide +kernel
theorem dX10_isMove_42 : decode cX10_isMove 42 = .ok (.goto 4, 3) := by decide +kernel
theorem dX10_isMove_45 : decode cX10_isMove 45 = .ok (.iconst 0, 1) := by decide +kernel
theorem dX10_isMove_46 : decode cX10_isMove 46 = .ok (.ireturn, 1) := by decide +kernel
theorem dX10_isMove_47 : decode cX10_isMove 47 = .ok (.iload_n 2, 1) := by decide +kernel
theorem dX10_isMove_48 : decode cX10_isMove 48 = .ok (.i2l, 1) := by decide +kernel
theorem dX10_isMove_49 : decode cX10_isMove 49 = .ok (.ldc2_w 391, 3) := by decide +kernel
theorem dX10_isMove_52 : decode cX10_isMove 52 = .ok (.invokestatic 385, 3) := by decide +kernel
theorem dX10_isMove_55 : decode cX10_isMove 55 = .ok (.ireturn, 1) := by decide +kernel
theorem dX10_isMove_56 : decode cX10_isMove 56 = .ok (.aload_n 0, 1) := by decide +kernel
theorem dX10_isMove_57 : decode cX10_isMove 57 = .ok (.iload_n 2, 1) := by decide +kernel
theorem dX10_isMove_58 : decode cX10_isMove 58 = .ok (.invokevirtual 218, 3) := by decide +kernel
theorem dX10_isMove_61 : decode cX10_isMove 61 = .ok (.ireturn, 1) := by decide +kernel
theorem dX10_isMove_62 : decode cX10_isMove 62 = .ok (.iconst 1, 1) := by decide +kernel
theorem dX10_isMove_63 : decode cX10_isMove 63 = .ok (.ireturn, 1) := by decide +kernel
theorem dX10_isMove_64 : decode cX10_isMove 64 = .ok (.iconst 0, 1) := by decide +kernel
theorem dX10_isMove_65 : decode cX10_isMove 65 = .ok (.ireturn, 1) := by decide +kernel
theorem dX10_refused_0 : decode cX10_refused 0 = .ok (.ldc2_w 393, 3) := by decide +kernel
theorem dX10_refused_3 : decode cX10_refused 3 = .ok (.iload_n 0, 1) := by decide +kernel
theorem dX10_refused_4 : decode cX10_refused 4 = .ok (.i2l, 1) := by decide +kernel
theorem dX10_refused_5 : decode cX10_refused 5 = .ok (.ladd, 1) := by decide +kernel
theorem dX10_refused_6 : decode cX10_refused 6 = .ok (.lreturn, 1) := by decide +kernel
theorem dX10_greatestDivisor_0 : decode cX10_greatestDivisor 0 = .ok (.lload_n 0, 1) := by decide +kernel
theorem dX10_greatestDivisor_1 : decode cX10_greatestDivisor 1 = .ok (.invokestatic 395, 3) := by decide +kernel
theorem dX10_greatestDivisor_4 : decode cX10_greatestDivisor 4 = .ok (.lstore 4, 2) := by decide +kernel
theorem dX10_greatestDivisor_6 : decode cX10_greatestDivisor 6 = .ok (.lload_n 2, 1) := by decide +kernel
theorem dX10_greatestDivisor_7 : decode cX10_greatestDivisor 7 = .ok (.invokestatic 395, 3) := by decide +kernel
theorem dX10_greatestDivisor_10 : decode cX10_greatestDivisor 10 = .ok (.lstore 6, 2) := by decide +kernel
theorem dX10_greatestDivisor_12 : decode cX10_greatestDivisor 12 = .ok (.iconst 0, 1) := by decide +kernel
theorem dX10_greatestDivisor_13 : decode cX10_greatestDivisor 13 = .ok (.istore 8, 2) := by decide +kernel
theorem dX10_greatestDivisor_15 : decode cX10_greatestDivisor 15 = .ok (.iload 8, 2) := by decide +kernel
theorem dX10_greatestDivisor_17 : decode cX10_greatestDivisor 17 = .ok (.sipush 200, 3) := by decide +kernel
theorem dX10_greatestDivisor_20 : decode cX10_greatestDivisor 20 = .ok (.if_icmp .ge 31, 3) := by decide +kernel
theorem dX10_greatestDivisor_23 : decode cX10_greatestDivisor 23 = .ok (.lload 6, 2) := by decide +kernel
theorem dX10_greatestDivisor_25 : decode cX10_greatestDivisor 25 = .ok (.lconst 0, 1) := by decide +kernel
theorem dX10_greatestDivisor_26 : decode cX10_greatestDivisor 26 = .ok (.lcmp, 1) := by decide +kernel
theorem dX10_greatestDivisor_27 : decode cX10_greatestDivisor 27 = .ok (.ifCond .eq 24, 3) := by decide +kernel
theorem dX10_greatestDivisor_30 : decode cX10_greatestDivisor 30 = .ok (.lload 4, 2) := by decide +kernel
theorem dX10_greatestDivisor_32 : decode cX10_greatestDivisor 32 = .ok (.lload 6, 2) := by decide +kernel
theorem dX10_greatestDivisor_34 : decode cX10_greatestDivisor 34 = .ok (.lrem, 1) := by decide +kernel
theorem dX10_greatestDivisor_35 : decode cX10_greatestDivisor 35 = .ok (.lstore 9, 2) := by decide +kernel
theorem dX10_greatestDivisor_37 : decode cX10_greatestDivisor 37 = .ok (.lload 6, 2) := by decide +kernel
theorem dX10_greatestDivisor_39 : decode cX10_greatestDivisor 39 = .ok (.lstore 4, 2) := by decide +kernel
theorem dX10_greatestDivisor_41 : decode cX10_greatestDivisor 41 = .ok (.lload 9, 2) := by decide +kernel
theorem dX10_greatestDivisor_43 : decode cX10_greatestDivisor 43 = .ok (.lstore 6, 2) := by decide +kernel
theorem dX10_greatestDivisor_45 : decode cX10_greatestDivisor 45 = .ok (.iinc 8 1, 3) := by decide +kernel
theorem dX10_greatestDivisor_48 : decode cX10_greatestDivisor 48 = .ok (.goto (-33), 3) := by decide +kernel
theorem dX10_greatestDivisor_51 : decode cX10_greatestDivisor 51 = .ok (.lload 4, 2) := by decide +kernel
theorem dX10_greatestDivisor_53 : decode cX10_greatestDivisor 53 = .ok (.lreturn, 1) := by decide +kernel
theorem dX10_sumOf_0 : decode cX10_sumOf 0 = .ok (.iconst 0, 1) := by decide +kernel
theorem dX10_sumOf_1 : decode cX10_sumOf 1 = .ok (.istore_n 1, 1) := by decide +kernel
theorem dX10_sumOf_2 : decode cX10_sumOf 2 = .ok (.aload_n 0, 1) := by decide +kernel
theorem dX10_sumOf_3 : decode cX10_sumOf 3 = .ok (.astore_n 2, 1) := by decide +kernel
theorem dX10_sumOf_4 : decode cX10_sumOf 4 = .ok (.aload_n 2, 1) := by decide +kernel
theorem dX10_sumOf_5 : decode cX10_sumOf 5 = .ok (.arraylength, 1) := by decide +kernel
theorem dX10_sumOf_6 : decode cX10_sumOf 6 = .ok (.istore_n 3, 1) := by decide +kernel
theorem dX10_sumOf_7 : decode cX10_sumOf 7 = .ok (.iconst 0, 1) := by decide +kernel
theorem dX10_sumOf_8 : decode cX10_sumOf 8 = .ok (.istore 4, 2) := by decide +kernel
theorem dX10_sumOf_10 : decode cX10_sumOf 10 = .ok (.iload 4, 2) := by decide +kernel
theorem dX10_sumOf_12 : decode cX10_sumOf 12 = .ok (.iload_n 3, 1) := by decide +kernel
theorem dX10_sumOf_13 : decode cX10_sumOf 13 = .ok (.if_icmp .ge 20, 3) := by decide +kernel
theorem dX10_sumOf_16 : decode cX10_sumOf 16 = .ok (.aload_n 2, 1) := by decide +kernel
theorem dX10_sumOf_17 : decode cX10_sumOf 17 = .ok (.iload 4, 2) := by decide +kernel
theorem dX10_sumOf_19 : decode cX10_sumOf 19 = .ok (.iaload, 1) := by decide +kernel
theorem dX10_sumOf_20 : decode cX10_sumOf 20 = .ok (.istore 5, 2) := by decide +kernel
theorem dX10_sumOf_22 : decode cX10_sumOf 22 = .ok (.iload_n 1, 1) := by decide +kernel
theorem dX10_sumOf_23 : decode cX10_sumOf 23 = .ok (.iload 5, 2) := by decide +kernel
theorem dX10_sumOf_25 : decode cX10_sumOf 25 = .ok (.iadd, 1) := by decide +kernel
theorem dX10_sumOf_26 : decode cX10_sumOf 26 = .ok (.istore_n 1, 1) := by decide +kernel
theorem dX10_sumOf_27 : decode cX10_sumOf 27 = .ok (.iinc 4 1, 3) := by decide +kernel
theorem dX10_sumOf_30 : decode cX10_sumOf 30 = .ok (.goto (-20), 3) := by decide +kernel
theorem dX10_sumOf_33 : decode cX10_sumOf 33 = .ok (.iload_n 1, 1) := by decide +kernel
theorem dX10_sumOf_34 : decode cX10_sumOf 34 = .ok (.ireturn, 1) := by decide +kernel
theorem dX10_tell_0 : decode cX10_tell 0 = .ok (.iload_n 1, 1) := by decide +kernel
theorem dX10_tell_1 : decode cX10_tell 1 = .ok (.invokestatic 98, 3) := by decide +kernel
theorem dX10_tell_4 : decode cX10_tell 4 = .ok (.ifCond .eq 15, 3) := by decide +kernel
theorem dX10_tell_7 : decode cX10_tell 7 = .ok (.aload_n 0, 1) := by decide +kernel
theorem dX10_tell_8 : decode cX10_tell 8 = .ok (.getfield 10, 3) := by decide +kernel
theorem dX10_tell_11 : decode cX10_tell 11 = .ok (.getfield 106, 3) := by decide +kernel
theorem dX10_tell_14 : decode cX10_tell 14 = .ok (.iload_n 1, 1) := by decide +kernel
theorem dX10_tell_15 : decode cX10_tell 15 = .ok (.iaload, 1) := by decide +kernel
theorem dX10_tell_16 : decode cX10_tell 16 = .ok (.goto 4, 3) := by decide +kernel
theorem dX10_tell_19 : decode cX10_tell 19 = .ok (.iconst 0, 1) := by decide +kernel
theorem dX10_tell_20 : decode cX10_tell 20 = .ok (.istore 5, 2) := by decide +kernel
theorem dX10_tell_22 : decode cX10_tell 22 = .ok (.aload_n 0, 1) := by decide +kernel
theorem dX10_tell_23 : decode cX10_tell 23 = .ok (.getfield 89, 3) := by decide +kernel
theorem dX10_tell_26 : decode cX10_tell 26 = .ok (.iconst 0, 1) := by decide +kernel
theorem dX10_tell_27 : decode cX10_tell 27 = .ok (.iload 5, 2) := by decide +kernel
theorem dX10_tell_29 : decode cX10_tell 29 = .ok (.ifCond .le 8, 3) := by decide +kernel
theorem dX10_tell_32 : decode cX10_tell 32 = .ok (.iload_n 2, 1) := by decide +kernel
theorem dX10_tell_33 : decode cX10_tell 33 = .ok (.i2l, 1) := by decide +kernel
theorem dX10_tell_34 : decode cX10_tell 34 = .ok (.goto 4, 3) := by decide +kernel
theorem dX10_tell_37 : decode cX10_tell 37 = .ok (.lconst 0, 1) := by decide +kernel
theorem dX10_tell_38 : decode cX10_tell 38 = .ok (.lastore, 1) := by decide +kernel
theorem dX10_tell_39 : decode cX10_tell 39 = .ok (.aload_n 0, 1) := by decide +kernel
theorem dX10_tell_40 : decode cX10_tell 40 = .ok (.getfield 89, 3) := by decide +kernel
theorem dX10_tell_43 : decode cX10_tell 43 = .ok (.iconst 1, 1) := by decide +kernel
theorem dX10_tell_44 : decode cX10_tell 44 = .ok (.iload 5, 2) := by decide +kernel
theorem dX10_tell_46 : decode cX10_tell 46 = .ok (.iconst 1, 1) := by decide +kernel
theorem dX10_tell_47 : decode cX10_tell 47 = .ok (.if_icmp .le 8, 3) := by decide +kernel
theorem dX10_tell_50 : decode cX10_tell 50 = .ok (.iload_n 3, 1) := by decide +kernel
theorem dX10_tell_51 : decode cX10_tell 51 = .ok (.i2l, 1) := by decide +kernel
theorem dX10_tell_52 : decode cX10_tell 52 = .ok (.goto 4, 3) := by decide +kernel
theorem dX10_tell_55 : decode cX10_tell 55 = .ok (.lconst 0, 1) := by decide +kernel
theorem dX10_tell_56 : decode cX10_tell 56 = .ok (.lastore, 1) := by decide +kernel
theorem dX10_tell_57 : decode cX10_tell 57 = .ok (.aload_n 0, 1) := by decide +kernel
theorem dX10_tell_58 : decode cX10_tell 58 = .ok (.getfield 89, 3) := by decide +kernel
theorem dX10_tell_61 : decode cX10_tell 61 = .ok (.iconst 2, 1) := by decide +kernel
theorem dX10_tell_62 : decode cX10_tell 62 = .ok (.iload 5, 2) := by decide +kernel
theorem dX10_tell_64 : decode cX10_tell 64 = .ok (.iconst 2, 1) := by decide +kernel
theorem dX10_tell_65 : decode cX10_tell 65 = .ok (.if_icmp .le 9, 3) := by decide +kernel
theorem dX10_tell_68 : decode cX10_tell 68 = .ok (.iload 4, 2) := by decide +kernel
theorem dX10_tell_70 : decode cX10_tell 70 = .ok (.i2l, 1) := by decide +kernel
theorem dX10_tell_71 : decode cX10_tell 71 = .ok (.goto 4, 3) := by decide +kernel
theorem dX10_tell_74 : decode cX10_tell 74 = .ok (.lconst 0, 1) := by decide +kernel
theorem dX10_tell_75 : decode cX10_tell 75 = .ok (.lastore, 1) := by decide +kernel
theorem dX10_tell_76 : decode cX10_tell 76 = .ok (.return_, 1) := by decide +kernel
theorem dX10_workOutRings_0 : decode cX10_workOutRings 0 = .ok (.aload_n 0, 1) := by decide +kernel
theorem dX10_workOutRings_1 : decode cX10_workOutRings 1 = .ok (.getfield 10, 3) := by decide +kernel
theorem dX10_workOutRings_4 : decode cX10_workOutRings 4 = .ok (.iload_n 1, 1) := by decide +kernel
theorem dX10_workOutRings_5 : decode cX10_workOutRings 5 = .ok (.aload_n 0, 1) := by decide +kernel
theorem dX10_workOutRings_6 : decode cX10_workOutRings 6 = .ok (.getfield 69, 3) := by decide +kernel
theorem dX10_workOutRings_9 : decode cX10_workOutRings 9 = .ok (.invokevirtual 137, 3) := by decide +kernel
theorem dX10_workOutRings_12 : decode cX10_workOutRings 12 = .ok (.aload_n 2, 1) := by decide +kernel
theorem dX10_workOutRings_13 : decode cX10_workOutRings 13 = .ok (.aload_n 0, 1) := by decide +kernel
theorem dX10_workOutRings_14 : decode cX10_workOutRings 14 = .ok (.getfield 69, 3) := by decide +kernel
theorem dX10_workOutRings_17 : decode cX10_workOutRings 17 = .ok (.invokevirtual 401, 3) := by decide +kernel
theorem dX10_workOutRings_20 : decode cX10_workOutRings 20 = .ok (.return_, 1) := by decide +kernel
theorem dX10_ownRing_0 : decode cX10_ownRing 0 = .ok (.aload_n 0, 1) := by decide +kernel
theorem dX10_ownRing_1 : decode cX10_ownRing 1 = .ok (.invokevirtual 133, 3) := by decide +kernel
theorem dX10_ownRing_4 : decode cX10_ownRing 4 = .ok (.istore_n 2, 1) := by decide +kernel
theorem dX10_ownRing_5 : decode cX10_ownRing 5 = .ok (.iload_n 1, 1) := by decide +kernel
theorem dX10_ownRing_6 : decode cX10_ownRing 6 = .ok (.ifCond .ge 5, 3) := by decide +kernel
theorem dX10_ownRing_9 : decode cX10_ownRing 9 = .ok (.iload_n 2, 1) := by decide +kernel
theorem dX10_ownRing_10 : decode cX10_ownRing 10 = .ok (.ireturn, 1) := by decide +kernel
theorem dX10_ownRing_11 : decode cX10_ownRing 11 = .ok (.iload_n 1, 1) := by decide +kernel
theorem dX10_ownRing_12 : decode cX10_ownRing 12 = .ok (.iload_n 2, 1) := by decide +kernel
theorem dX10_ownRing_13 : decode cX10_ownRing 13 = .ok (.if_icmp .ge 12, 3) := by decide +kernel
theorem dX10_ownRing_16 : decode cX10_ownRing 16 = .ok (.aload_n 0, 1) := by decide +kernel
theorem dX10_ownRing_17 : decode cX10_ownRing 17 = .ok (.iload_n 1, 1) := by decide +kernel
theorem dX10_ownRing_18 : decode cX10_ownRing 18 = .ok (.invokevirtual 404, 3) := by decide +kernel
theorem dX10_ownRing_21 : decode cX10_ownRing 21 = .ok (.l2i, 1) := by decide +kernel
theorem dX10_ownRing_22 : decode cX10_ownRing 22 = .ok (.goto 5, 3) := by decide +kernel
theorem dX10_ownRing_25 : decode cX10_ownRing 25 = .ok (.bipush (-3), 2) := by decide +kernel
theorem dX10_ownRing_27 : decode cX10_ownRing 27 = .ok (.ireturn, 1) := by decide +kernel
theorem dX10_setOfWell_0 : decode cX10_setOfWell 0 = .ok (.iconst 0, 1) := by decide +kernel
theorem dX10_setOfWell_1 : decode cX10_setOfWell 1 = .ok (.istore_n 1, 1) := by decide +kernel
theorem dX10_setOfWell_2 : decode cX10_setOfWell 2 = .ok (.iconst 0, 1) := by decide +kernel
theorem dX10_setOfWell_3 : decode cX10_setOfWell 3 = .ok (.istore_n 2, 1) := by decide +kernel
theorem dX10_setOfWell_4 : decode cX10_setOfWell 4 = .ok (.iload_n 2, 1) := by decide +kernel
theorem dX10_setOfWell_5 : decode cX10_setOfWell 5 = .ok (.bipush 8, 2) := by decide +kernel
theorem dX10_setOfWell_7 : decode cX10_setOfWell 7 = .ok (.if_icmp .ge 38, 3) := by decide +kernel
theorem dX10_setOfWell_10 : decode cX10_setOfWell 10 = .ok (.aload_n 0, 1) := by decide +kernel
theorem dX10_setOfWell_11 : decode cX10_setOfWell 11 = .ok (.iload_n 2, 1) := by decide +kernel
theorem dX10_setOfWell_12 : decode cX10_setOfWell 12 = .ok (.invokevirtual 218, 3) := by decide +kernel
theorem dX10_setOfWell_15 : decode cX10_setOfWell 15 = .ok (.ifCond .eq 24, 3) := by decide +kernel
theorem dX10_setOfWell_18 : decode cX10_setOfWell 18 = .ok (.aload_n 0, 1) := by decide +kernel
theorem dX10_setOfWell_19 : decode cX10_setOfWell 19 = .ok (.getfield 59, 3) := by decide +kernel
theorem dX10_setOfWell_22 : decode cX10_setOfWell 22 = .ok (.aload_n 0, 1) := by decide +kernel
theorem dX10_setOfWell_23 : decode cX10_setOfWell 23 = .ok (.getfield 10, 3) := by decide +kernel
theorem dX10_setOfWell_26 : decode cX10_setOfWell 26 = .ok (.iload_n 2, 1) := by decide +kernel
theorem dX10_setOfWell_27 : decode cX10_setOfWell 27 = .ok (.invokevirtual 227, 3) := by decide +kernel
theorem dX10_setOfWell_30 : decode cX10_setOfWell 30 = .ok (.ifCond .eq 9, 3) := by decide +kernel
theorem dX10_setOfWell_33 : decode cX10_setOfWell 33 = .ok (.iload_n 1, 1) := by decide +kernel
theorem dX10_setOfWell_34 : decode cX10_setOfWell 34 = .ok (.iconst 1, 1) := by decide +kernel
theorem dX10_setOfWell_35 : decode cX10_setOfWell 35 = .ok (.iload_n 2, 1) := by decide +kernel
theorem dX10_setOfWell_36 : decode cX10_setOfWell 36 = .ok (.ishl, 1) := by decide +kernel
theorem dX10_setOfWell_37 : decode cX10_setOfWell 37 = .ok (.ior, 1) := by decide +kernel
theorem dX10_setOfWell_38 : decode cX10_setOfWell 38 = .ok (.istore_n 1, 1) := by decide +kernel
theorem dX10_setOfWell_39 : decode cX10_setOfWell 39 = .ok (.iinc 2 1, 3) := by decide +kernel
theorem dX10_setOfWell_42 : decode cX10_setOfWell 42 = .ok (.goto (-38), 3) := by decide +kernel
theorem dX10_setOfWell_45 : decode cX10_setOfWell 45 = .ok (.iload_n 1, 1) := by decide +kernel
theorem dX10_setOfWell_46 : decode cX10_setOfWell 46 = .ok (.ireturn, 1) := by decide +kernel
theorem dX10_readDiagram_0 : decode cX10_readDiagram 0 = .ok (.iload_n 1, 1) := by decide +kernel
theorem dX10_readDiagram_1 : decode cX10_readDiagram 1 = .ok (.invokestatic 183, 3) := by decide +kernel
theorem dX10_readDiagram_4 : decode cX10_readDiagram 4 = .ok (.ifCond .ne 5, 3) := by decide +kernel
theorem dX10_readDiagram_7 : decode cX10_readDiagram 7 = .ok (.iconst (-1), 1) := by decide +kernel
theorem dX10_readDiagram_8 : decode cX10_readDiagram 8 = .ok (.ireturn, 1) := by decide +kernel
theorem dX10_readDiagram_9 : decode cX10_readDiagram 9 = .ok (.aload_n 0, 1) := by decide +kernel
theorem dX10_readDiagram_10 : decode cX10_readDiagram 10 = .ok (.getfield 46, 3) := by decide +kernel
theorem dX10_readDiagram_13 : decode cX10_readDiagram 13 = .ok (.iload_n 1, 1) := by decide +kernel
theorem dX10_readDiagram_14 : decode cX10_readDiagram 14 = .ok (.aaload, 1) := by decide +kernel
theorem dX10_readDiagram_15 : decode cX10_readDiagram 15 = .ok (.iconst 0, 1) := by decide +kernel
theorem dX10_readDiagram_16 : decode cX10_readDiagram 16 = .ok (.iload_n 2, 1) := by decide +kernel
theorem dX10_readDiagram_17 : decode cX10_readDiagram 17 = .ok (.bipush 7, 2) := by decide +kernel
theorem dX10_readDiagram_19 : decode cX10_readDiagram 19 = .ok (.invokevirtual 186, 3) := by decide +kernel
theorem dX10_readDiagram_22 : decode cX10_readDiagram 22 = .ok (.istore_n 3, 1) := by decide +kernel
theorem dX10_readDiagram_23 : decode cX10_readDiagram 23 = .ok (.iload_n 3, 1) := by decide +kernel
theorem dX10_readDiagram_24 : decode cX10_readDiagram 24 = .ok (.ifCond .ge 5, 3) := by decide +kernel
theorem dX10_readDiagram_27 : decode cX10_readDiagram 27 = .ok (.iload_n 3, 1) := by decide +kernel
theorem dX10_readDiagram_28 : decode cX10_readDiagram 28 = .ok (.ireturn, 1) := by decide +kernel
theorem dX10_readDiagram_29 : decode cX10_readDiagram 29 = .ok (.aload_n 0, 1) := by decide +kernel
theorem dX10_readDiagram_30 : decode cX10_readDiagram 30 = .ok (.getfield 40, 3) := by decide +kernel
theorem dX10_readDiagram_33 : decode cX10_readDiagram 33 = .ok (.aload_n 0, 1) := by decide +kernel
theorem dX10_readDiagram_34 : decode cX10_readDiagram 34 = .ok (.getfield 10, 3) := by decide +kernel
theorem dX10_readDiagram_37 : decode cX10_readDiagram 37 = .ok (.aload_n 0, 1) := by decide +kernel
theorem dX10_readDiagram_38 : decode cX10_readDiagram 38 = .ok (.getfield 46, 3) := by decide +kernel
theorem dX10_readDiagram_41 : decode cX10_readDiagram 41 = .ok (.iload_n 1, 1) := by decide +kernel
theorem dX10_readDiagram_42 : decode cX10_readDiagram 42 = .ok (.aaload, 1) := by decide +kernel
theorem dX10_readDiagram_43 : decode cX10_readDiagram 43 = .ok (.getfield 195, 3) := by decide +kernel
theorem dX10_readDiagram_46 : decode cX10_readDiagram 46 = .ok (.iload_n 2, 1) := by decide +kernel
theorem dX10_readDiagram_47 : decode cX10_readDiagram 47 = .ok (.invokevirtual 407, 3) := by decide +kernel
theorem dX10_readDiagram_50 : decode cX10_readDiagram 50 = .ok (.ifCond .eq 7, 3) := by decide +kernel
theorem dX10_readDiagram_53 : decode cX10_readDiagram 53 = .ok (.iconst 1, 1) := by decide +kernel
theorem dX10_readDiagram_54 : decode cX10_readDiagram 54 = .ok (.goto 5, 3) := by decide +kernel
theorem dX10_readDiagram_57 : decode cX10_readDiagram 57 = .ok (.bipush (-3), 2) := by decide +kernel
theorem dX10_readDiagram_59 : decode cX10_readDiagram 59 = .ok (.ireturn, 1) := by decide +kernel
theorem dX10_makeMove_0 : decode cX10_makeMove 0 = .ok (.iload_n 1, 1) := by decide +kernel
theorem dX10_makeMove_1 : decode cX10_makeMove 1 = .ok (.ifCond .lt 16, 3) := by decide +kernel
theorem dX10_makeMove_4 : decode cX10_makeMove 4 = .ok (.iload_n 1, 1) := by decide +kernel
theorem dX10_makeMove_5 : decode cX10_makeMove 5 = .ok (.bipush 12, 2) := by decide +kernel
theorem dX10_makeMove_7 : decode cX10_makeMove 7 = .ok (.if_icmp .ge 10, 3) := by decide +kernel
theorem dX10_makeMove_10 : decode cX10_makeMove 10 = .ok (.iload_n 2, 1) := by decide +kernel
theorem dX10_makeMove_11 : decode cX10_makeMove 11 = .ok (.invokestatic 98, 3) := by decide +kernel
theorem dX10_makeMove_14 : decode cX10_makeMove 14 = .ok (.ifCond .ne 6, 3) := by decide +kernel
theorem dX10_makeMove_17 : decode cX10_makeMove 17 = .ok (.bipush (-4), 2) := by decide +kernel
theorem dX10_makeMove_19 : decode cX10_makeMove 19 = .ok (.ireturn, 1) := by decide +kernel
theorem dX10_makeMove_20 : decode cX10_makeMove 20 = .ok (.iload_n 2, 1) := by decide +kernel
theorem dX10_makeMove_21 : decode cX10_makeMove 21 = .ok (.istore_n 3, 1) := by decide +kernel
theorem dX10_makeMove_22 : decode cX10_makeMove 22 = .ok (.aload_n 0, 1) := by decide +kernel
theorem dX10_makeMove_23 : decode cX10_makeMove 23 = .ok (.getfield 10, 3) := by decide +kernel
theorem dX10_makeMove_26 : decode cX10_makeMove 26 = .ok (.getfield 410, 3) := by decide +kernel
theorem dX10_makeMove_29 : decode cX10_makeMove 29 = .ok (.iload_n 1, 1) := by decide +kernel
theorem dX10_makeMove_30 : decode cX10_makeMove 30 = .ok (.iaload, 1) := by decide +kernel
theorem dX10_makeMove_31 : decode cX10_makeMove 31 = .ok (.istore 4, 2) := by decide +kernel
theorem dX10_makeMove_33 : decode cX10_makeMove 33 = .ok (.aload_n 0, 1) := by decide +kernel
theorem dX10_makeMove_34 : decode cX10_makeMove 34 = .ok (.getfield 10, 3) := by decide +kernel
theorem dX10_makeMove_37 : decode cX10_makeMove 37 = .ok (.getfield 413, 3) := by decide +kernel
theorem dX10_makeMove_40 : decode cX10_makeMove 40 = .ok (.iload_n 1, 1) := by decide +kernel
theorem dX10_makeMove_41 : decode cX10_makeMove 41 = .ok (.iaload, 1) := by decide +kernel
theorem dX10_makeMove_42 : decode cX10_makeMove 42 = .ok (.tableswitch 130 0 2 #[26, 50, 81], 26) := by decide +kernel
theorem dX10_makeMove_68 : decode cX10_makeMove 68 = .ok (.aload_n 0, 1) := by decide +kernel
theorem dX10_makeMove_69 : decode cX10_makeMove 69 = .ok (.iload_n 2, 1) := by decide +kernel
theorem dX10_makeMove_70 : decode cX10_makeMove 70 = .ok (.iload 4, 2) := by decide +kernel
theorem dX10_makeMove_72 : decode cX10_makeMove 72 = .ok (.invokevirtual 145, 3) := by decide +kernel
theorem dX10_makeMove_75 : decode cX10_makeMove 75 = .ok (.ifCond .eq 120, 3) := by decide +kernel
theorem dX10_makeMove_78 : decode cX10_makeMove 78 = .ok (.aload_n 0, 1) := by decide +kernel
theorem dX10_makeMove_79 : decode cX10_makeMove 79 = .ok (.getfield 89, 3) := by decide +kernel
theorem dX10_makeMove_82 : decode cX10_makeMove 82 = .ok (.iload 4, 2) := by decide +kernel
theorem dX10_makeMove_84 : decode cX10_makeMove 84 = .ok (.dup2, 1) := by decide +kernel
theorem dX10_makeMove_85 : decode cX10_makeMove 85 = .ok (.laload, 1) := by decide +kernel
theorem dX10_makeMove_86 : decode cX10_makeMove 86 = .ok (.lconst 1, 1) := by decide +kernel
theorem dX10_makeMove_87 : decode cX10_makeMove 87 = .ok (.ladd, 1) := by decide +kernel
theorem dX10_makeMove_88 : decode cX10_makeMove 88 = .ok (.lastore, 1) := by decide +kernel
theorem dX10_makeMove_89 : decode cX10_makeMove 89 = .ok (.goto 106, 3) := by decide +kernel
theorem dX10_makeMove_92 : decode cX10_makeMove 92 = .ok (.iconst 0, 1) := by decide +kernel
theorem dX10_makeMove_93 : decode cX10_makeMove 93 = .ok (.istore 5, 2) := by decide +kernel
theorem dX10_makeMove_95 : decode cX10_makeMove 95 = .ok (.iload 5, 2) := by decide +kernel
theorem dX10_makeMove_97 : decode cX10_makeMove 97 = .ok (.iconst 3, 1) := by decide +kernel
theorem dX10_makeMove_98 : decode cX10_makeMove 98 = .ok (.if_icmp .ge 22, 3) := by decide +kernel
theorem dX10_makeMove_101 : decode cX10_makeMove 101 = .ok (.aload_n 0, 1) := by decide +kernel
theorem dX10_makeMove_102 : decode cX10_makeMove 102 = .ok (.getfield 89, 3) := by decide +kernel
theorem dX10_makeMove_105 : decode cX10_makeMove 105 = .ok (.iload 5, 2) := by decide +kernel
theorem dX10_makeMove_107 : decode cX10_makeMove 107 = .ok (.dup2, 1) := by decide +kernel
theorem dX10_makeMove_108 : decode cX10_makeMove 108 = .ok (.laload, 1) := by decide +kernel
theorem dX10_makeMove_109 : decode cX10_makeMove 109 = .ok (.iload 4, 2) := by decide +kernel
theorem dX10_makeMove_111 : decode cX10_makeMove 111 = .ok (.i2l, 1) := by decide +kernel
theorem dX10_makeMove_112 : decode cX10_makeMove 112 = .ok (.lmul, 1) := by decide +kernel
theorem dX10_makeMove_113 : decode cX10_makeMove 113 = .ok (.lastore, 1) := by decide +kernel
theorem dX10_makeMove_114 : decode cX10_makeMove 114 = .ok (.iinc 5 1, 3) := by decide +kernel
theorem dX10_makeMove_117 : decode cX10_makeMove 117 = .ok (.goto (-22), 3) := by decide +kernel
theorem dX10_makeMove_120 : decode cX10_makeMove 120 = .ok (.goto 75, 3) := by decide +kernel
theorem dX10_makeMove_123 : decode cX10_makeMove 123 = .ok (.aload_n 0, 1) := by decide +kernel
theorem dX10_makeMove_124 : decode cX10_makeMove 124 = .ok (.getfield 10, 3) := by decide +kernel
theorem dX10_makeMove_127 : decode cX10_makeMove 127 = .ok (.iload_n 1, 1) := by decide +kernel
theorem dX10_makeMove_128 : decode cX10_makeMove 128 = .ok (.iload_n 2, 1) := by decide +kernel
theorem dX10_makeMove_129 : decode cX10_makeMove 129 = .ok (.invokevirtual 416, 3) := by decide +kernel
theorem dX10_makeMove_132 : decode cX10_makeMove 132 = .ok (.ifCond .ne 6, 3) := by decide +kernel
theorem dX10_makeMove_135 : decode cX10_makeMove 135 = .ok (.bipush (-4), 2) := by decide +kernel
theorem dX10_makeMove_137 : decode cX10_makeMove 137 = .ok (.ireturn, 1) := by decide +kernel
theorem dX10_makeMove_138 : decode cX10_makeMove 138 = .ok (.aload_n 0, 1) := by decide +kernel
theorem dX10_makeMove_139 : decode cX10_makeMove 139 = .ok (.getfield 10, 3) := by decide +kernel
theorem dX10_makeMove_142 : decode cX10_makeMove 142 = .ok (.iload_n 1, 1) := by decide +kernel
theorem dX10_makeMove_143 : decode cX10_makeMove 143 = .ok (.aload_n 0, 1) := by decide +kernel
theorem dX10_makeMove_144 : decode cX10_makeMove 144 = .ok (.getfield 89, 3) := by decide +kernel
theorem dX10_makeMove_147 : decode cX10_makeMove 147 = .ok (.aload_n 0, 1) := by decide +kernel
theorem dX10_makeMove_148 : decode cX10_makeMove 148 = .ok (.getfield 93, 3) := by decide +kernel
theorem dX10_makeMove_151 : decode cX10_makeMove 151 = .ok (.invokevirtual 419, 3) := by decide +kernel
theorem dX10_makeMove_154 : decode cX10_makeMove 154 = .ok (.istore_n 3, 1) := by decide +kernel
theorem dX10_makeMove_155 : decode cX10_makeMove 155 = .ok (.aload_n 0, 1) := by decide +kernel
theorem dX10_makeMove_156 : decode cX10_makeMove 156 = .ok (.getfield 93, 3) := by decide +kernel
theorem dX10_makeMove_159 : decode cX10_makeMove 159 = .ok (.iconst 0, 1) := by decide +kernel
theorem dX10_makeMove_160 : decode cX10_makeMove 160 = .ok (.aload_n 0, 1) := by decide +kernel
theorem dX10_makeMove_161 : decode cX10_makeMove 161 = .ok (.getfield 89, 3) := by decide +kernel
theorem dX10_makeMove_164 : decode cX10_makeMove 164 = .ok (.iconst 0, 1) := by decide +kernel
theorem dX10_makeMove_165 : decode cX10_makeMove 165 = .ok (.iconst 3, 1) := by decide +kernel
theorem dX10_makeMove_166 : decode cX10_makeMove 166 = .ok (.invokestatic 423, 3) := by decide +kernel
theorem dX10_makeMove_169 : decode cX10_makeMove 169 = .ok (.goto 26, 3) := by decide +kernel
theorem dX10_makeMove_172 : decode cX10_makeMove 172 = .ok (.aload_n 0, 1) := by decide +kernel
theorem dX10_makeMove_173 : decode cX10_makeMove 173 = .ok (.getfield 10, 3) := by decide +kernel
theorem dX10_makeMove_176 : decode cX10_makeMove 176 = .ok (.iload_n 2, 1) := by decide +kernel
theorem dX10_makeMove_177 : decode cX10_makeMove 177 = .ok (.aload_n 0, 1) := by decide +kernel
theorem dX10_makeMove_178 : decode cX10_makeMove 178 = .ok (.getfield 69, 3) := by decide +kernel
theorem dX10_makeMove_181 : decode cX10_makeMove 181 = .ok (.invokevirtual 137, 3) := by decide +kernel
theorem dX10_makeMove_184 : decode cX10_makeMove 184 = .ok (.aload_n 0, 1) := by decide +kernel
theorem dX10_makeMove_185 : decode cX10_makeMove 185 = .ok (.getfield 69, 3) := by decide +kernel
theorem dX10_makeMove_188 : decode cX10_makeMove 188 = .ok (.aload_n 0, 1) := by decide +kernel
theorem dX10_makeMove_189 : decode cX10_makeMove 189 = .ok (.getfield 89, 3) := by decide +kernel
theorem dX10_makeMove_192 : decode cX10_makeMove 192 = .ok (.invokevirtual 163, 3) := by decide +kernel
theorem dX10_makeMove_195 : decode cX10_makeMove 195 = .ok (.aload_n 0, 1) := by decide +kernel
theorem dX10_makeMove_196 : decode cX10_makeMove 196 = .ok (.invokevirtual 429, 3) := by decide +kernel
theorem dX10_makeMove_199 : decode cX10_makeMove 199 = .ok (.ifCond .eq 7, 3) := by decide +kernel
theorem dX10_makeMove_202 : decode cX10_makeMove 202 = .ok (.iload_n 3, 1) := by decide +kernel
theorem dX10_makeMove_203 : decode cX10_makeMove 203 = .ok (.goto 5, 3) := by decide +kernel
theorem dX10_makeMove_206 : decode cX10_makeMove 206 = .ok (.bipush (-16), 2) := by decide +kernel
theorem dX10_makeMove_208 : decode cX10_makeMove 208 = .ok (.ireturn, 1) := by decide +kernel
theorem dX10_rowIsWithin_0 : decode cX10_rowIsWithin 0 = .ok (.aload_n 0, 1) := by decide +kernel
theorem dX10_rowIsWithin_1 : decode cX10_rowIsWithin 1 = .ok (.getfield 89, 3) := by decide +kernel
theorem dX10_rowIsWithin_4 : decode cX10_rowIsWithin 4 = .ok (.iconst 0, 1) := by decide +kernel
theorem dX10_rowIsWithin_5 : decode cX10_rowIsWithin 5 = .ok (.laload, 1) := by decide +kernel
theorem dX10_rowIsWithin_6 : decode cX10_rowIsWithin 6 = .ok (.ldc2_w 432, 3) := by decide +kernel
theorem dX10_rowIsWithin_9 : decode cX10_rowIsWithin 9 = .ok (.invokestatic 385, 3) := by decide +kernel
theorem dX10_rowIsWithin_12 : decode cX10_rowIsWithin 12 = .ok (.ifCond .eq 37, 3) := by decide +kernel
theorem dX10_rowIsWithin_15 : decode cX10_rowIsWithin 15 = .ok (.aload_n 0, 1) := by decide +kernel
theorem dX10_rowIsWithin_16 : decode cX10_rowIsWithin 16 = .ok (.getfield 89, 3) := by decide +kernel
theorem dX10_rowIsWithin_19 : decode cX10_rowIsWithin 19 = .ok (.iconst 1, 1) := by decide +kernel
theorem dX10_rowIsWithin_20 : decode cX10_rowIsWithin 20 = .ok (.laload, 1) := by decide +kernel
theorem dX10_rowIsWithin_21 : decode cX10_rowIsWithin 21 = .ok (.ldc2_w 432, 3) := by decide +kernel
theorem dX10_rowIsWithin_24 : decode cX10_rowIsWithin 24 = .ok (.invokestatic 385, 3) := by decide +kernel
theorem dX10_rowIsWithin_27 : decode cX10_rowIsWithin 27 = .ok (.ifCond .eq 22, 3) := by decide +kernel
theorem dX10_rowIsWithin_30 : decode cX10_rowIsWithin 30 = .ok (.aload_n 0, 1) := by decide +kernel
theorem dX10_rowIsWithin_31 : decode cX10_rowIsWithin 31 = .ok (.getfield 89, 3) := by decide +kernel
theorem dX10_rowIsWithin_34 : decode cX10_rowIsWithin 34 = .ok (.iconst 2, 1) := by decide +kernel
theorem dX10_rowIsWithin_35 : decode cX10_rowIsWithin 35 = .ok (.laload, 1) := by decide +kernel
theorem dX10_rowIsWithin_36 : decode cX10_rowIsWithin 36 = .ok (.ldc2_w 432, 3) := by decide +kernel
theorem dX10_rowIsWithin_39 : decode cX10_rowIsWithin 39 = .ok (.invokestatic 385, 3) := by decide +kernel
theorem dX10_rowIsWithin_42 : decode cX10_rowIsWithin 42 = .ok (.ifCond .eq 7, 3) := by decide +kernel
theorem dX10_rowIsWithin_45 : decode cX10_rowIsWithin 45 = .ok (.iconst 1, 1) := by decide +kernel
theorem dX10_rowIsWithin_46 : decode cX10_rowIsWithin 46 = .ok (.goto 4, 3) := by decide +kernel
theorem dX10_rowIsWithin_49 : decode cX10_rowIsWithin 49 = .ok (.iconst 0, 1) := by decide +kernel
theorem dX10_rowIsWithin_50 : decode cX10_rowIsWithin 50 = .ok (.ireturn, 1) := by decide +kernel
theorem dX10_layAgain_0 : decode cX10_layAgain 0 = .ok (.aload_n 0, 1) := by decide +kernel
theorem dX10_layAgain_1 : decode cX10_layAgain 1 = .ok (.invokevirtual 429, 3) := by decide +kernel
theorem dX10_layAgain_4 : decode cX10_layAgain 4 = .ok (.ifCond .ne 6, 3) := by decide +kernel
theorem dX10_layAgain_7 : decode cX10_layAgain 7 = .ok (.bipush (-16), 2) := by decide +kernel
theorem dX10_layAgain_9 : decode cX10_layAgain 9 = .ok (.ireturn, 1) := by decide +kernel
theorem dX10_layAgain_10 : decode cX10_layAgain 10 = .ok (.aload_n 1, 1) := by decide +kernel
theorem dX10_layAgain_11 : decode cX10_layAgain 11 = .ok (.aload_n 1, 1) := by decide +kernel
theorem dX10_layAgain_12 : decode cX10_layAgain 12 = .ok (.getfield 359, 3) := by decide +kernel
theorem dX10_layAgain_15 : decode cX10_layAgain 15 = .ok (.aload_n 0, 1) := by decide +kernel
theorem dX10_layAgain_16 : decode cX10_layAgain 16 = .ok (.getfield 89, 3) := by decide +kernel
theorem dX10_layAgain_19 : decode cX10_layAgain 19 = .ok (.invokevirtual 347, 3) := by decide +kernel
theorem dX10_layAgain_22 : decode cX10_layAgain 22 = .ok (.iconst 1, 1) := by decide +kernel
theorem dX10_layAgain_23 : decode cX10_layAgain 23 = .ok (.ireturn, 1) := by decide +kernel
theorem dX11_init_0 : decode cX11_init 0 = .ok (.aload_n 0, 1) := by decide +kernel
theorem dX11_init_1 : decode cX11_init 1 = .ok (.invokespecial 1, 3) := by decide +kernel
theorem dX11_init_4 : decode cX11_init 4 = .ok (.aload_n 0, 1) := by decide +kernel
theorem dX11_init_5 : decode cX11_init 5 = .ok (.sipush 353, 3) := by decide +kernel
theorem dX11_init_8 : decode cX11_init 8 = .ok (.newarray .int, 2) := by decide +kernel
theorem dX11_init_10 : decode cX11_init 10 = .ok (.putfield 7, 3) := by decide +kernel
theorem dX11_init_13 : decode cX11_init 13 = .ok (.aload_n 0, 1) := by decide +kernel
theorem dX11_init_14 : decode cX11_init 14 = .ok (.sipush 353, 3) := by decide +kernel
theorem dX11_init_17 : decode cX11_init 17 = .ok (.newarray .int, 2) := by decide +kernel
theorem dX11_init_19 : decode cX11_init 19 = .ok (.putfield 13, 3) := by decide +kernel
theorem dX11_init_22 : decode cX11_init 22 = .ok (.aload_n 0, 1) := by decide +kernel
theorem dX11_init_23 : decode cX11_init 23 = .ok (.sipush 7060, 3) := by decide +kernel
theorem dX11_init_26 : decode cX11_init 26 = .ok (.newarray .int, 2) := by decide +kernel
theorem dX11_init_28 : decode cX11_init 28 = .ok (.putfield 16, 3) := by decide +kernel
theorem dX11_init_31 : decode cX11_init 31 = .ok (.aload_n 0, 1) := by decide +kernel
theorem dX11_init_32 : decode cX11_init 32 = .ok (.bipush 96, 2) := by decide +kernel
theorem dX11_init_34 : decode cX11_init 34 = .ok (.newarray .long, 2) := by decide +kernel
theorem dX11_init_36 : decode cX11_init 36 = .ok (.putfield 19, 3) := by decide +kernel
theorem dX11_init_39 : decode cX11_init 39 = .ok (.aload_n 0, 1) := by decide +kernel
theorem dX11_init_40 : decode cX11_init 40 = .ok (.bipush 36, 2) := by decide +kernel
theorem dX11_init_42 : decode cX11_init 42 = .ok (.newarray .long, 2) := by decide +kernel
theorem dX11_init_44 : decode cX11_init 44 = .ok (.putfield 23, 3) := by decide +kernel
theorem dX11_init_47 : decode cX11_init 47 = .ok (.aload_n 0, 1) := by decide +kernel
theorem dX11_init_48 : decode cX11_init 48 = .ok (.bipush 36, 2) := by decide +kernel
theorem dX11_init_50 : decode cX11_init 50 = .ok (.newarray .long, 2) := by decide +kernel
theorem dX11_init_52 : decode cX11_init 52 = .ok (.putfield 26, 3) := by decide +kernel
theorem dX11_init_55 : decode cX11_init 55 = .ok (.aload_n 0, 1) := by decide +kernel
theorem dX11_init_56 : decode cX11_init 56 = .ok (.bipush 36, 2) := by decide +kernel
theorem dX11_init_58 : decode cX11_init 58 = .ok (.newarray .long, 2) := by decide +kernel
theorem dX11_init_60 : decode cX11_init 60 = .ok (.putfield 29, 3) := by decide +kernel
theorem dX11_init_63 : decode cX11_init 63 = .ok (.aload_n 0, 1) := by decide +kernel
theorem dX11_init_64 : decode cX11_init 64 = .ok (.bipush 36, 2) := by decide +kernel
theorem dX11_init_66 : decode cX11_init 66 = .ok (.newarray .long, 2) := by decide +kernel
theorem dX11_init_68 : decode cX11_init 68 = .ok (.putfield 32, 3) := by decide +kernel
theorem dX11_init_71 : decode cX11_init 71 = .ok (.aload_n 0, 1) := by decide +kernel
theorem dX11_init_72 : decode cX11_init 72 = .ok (.bipush 36, 2) := by decide +kernel
theorem dX11_init_74 : decode cX11_init 74 = .ok (.newarray .long, 2) := by decide +kernel
theorem dX11_init_76 : decode cX11_init 76 = .ok (.putfield 35, 3) := by decide +kernel
theorem dX11_init_79 : decode cX11_init 79 = .ok (.aload_n 0, 1) := by decide +kernel
theorem dX11_init_80 : decode cX11_init 80 = .ok (.bipush 6, 2) := by decide +kernel
theorem dX11_init_82 : decode cX11_init 82 = .ok (.newarray .long, 2) := by decide +kernel
theorem dX11_init_84 : decode cX11_init 84 = .ok (.putfield 38, 3) := by decide +kernel
theorem dX11_init_87 : decode cX11_init 87 = .ok (.aload_n 0, 1) := by decide +kernel
theorem dX11_init_88 : decode cX11_init 88 = .ok (.bipush 6, 2) := by decide +kernel
theorem dX11_init_90 : decode cX11_init 90 = .ok (.newarray .long, 2) := by decide +kernel
theorem dX11_init_92 : decode cX11_init 92 = .ok (.putfield 41, 3) := by decide +kernel
theorem dX11_init_95 : decode cX11_init 95 = .ok (.aload_n 0, 1) := by decide +kernel
theorem dX11_init_96 : decode cX11_init 96 = .ok (.bipush 24, 2) := by decide +kernel
theorem dX11_init_98 : decode cX11_init 98 = .ok (.newarray .long, 2) := by decide +kernel
theorem dX11_init_100 : decode cX11_init 100 = .ok (.putfield 44, 3) := by decide +kernel
theorem dX11_init_103 : decode cX11_init 103 = .ok (.aload_n 0, 1) := by decide +kernel
theorem dX11_init_104 : decode cX11_init 104 = .ok (.bipush 9, 2) := by decide +kernel
theorem dX11_init_106 : decode cX11_init 106 = .ok (.newarray .long, 2) := by decide +kernel
theorem dX11_init_108 : decode cX11_init 108 = .ok (.putfield 47, 3) := by decide +kernel
theorem dX11_init_111 : decode cX11_init 111 = .ok (.aload_n 0, 1) := by decide +kernel
theorem dX11_init_112 : decode cX11_init 112 = .ok (.iconst 3, 1) := by decide +kernel
theorem dX11_init_113 : decode cX11_init 113 = .ok (.newarray .long, 2) := by decide +kernel
theorem dX11_init_115 : decode cX11_init 115 = .ok (.putfield 50, 3) := by decide +kernel
theorem dX11_init_118 : decode cX11_init 118 = .ok (.aload_n 0, 1) := by decide +kernel
theorem dX11_init_119 : decode cX11_init 119 = .ok (.bipush 9, 2) := by decide +kernel
theorem dX11_init_121 : decode cX11_init 121 = .ok (.newarray .long, 2) := by decide +kernel
theorem dX11_init_123 : decode cX11_init 123 = .ok (.putfield 53, 3) := by decide +kernel
theorem dX11_init_126 : decode cX11_init 126 = .ok (.aload_n 0, 1) := by decide +kernel
theorem dX11_init_127 : decode cX11_init 127 = .ok (.bipush 6, 2) := by decide +kernel
theorem dX11_init_129 : decode cX11_init 129 = .ok (.newarray .long, 2) := by decide +kernel
theorem dX11_init_131 : decode cX11_init 131 = .ok (.putfield 56, 3) := by decide +kernel
theorem dX11_init_134 : decode cX11_init 134 = .ok (.aload_n 0, 1) := by decide +kernel
theorem dX11_init_135 : decode cX11_init 135 = .ok (.bipush 36, 2) := by decide +kernel
theorem dX11_init_137 : decode cX11_init 137 = .ok (.newarray .long, 2) := by decide +kernel
theorem dX11_init_139 : decode cX11_init 139 = .ok (.putfield 59, 3) := by decide +kernel
theorem dX11_init_142 : decode cX11_init 142 = .ok (.aload_n 0, 1) := by decide +kernel
theorem dX11_init_143 : decode cX11_init 143 = .ok (.bipush 100, 2) := by decide +kernel
theorem dX11_init_145 : decode cX11_init 145 = .ok (.newarray .byte, 2) := by decide +kernel
theorem dX11_init_147 : decode cX11_init 147 = .ok (.putfield 62, 3) := by decide +kernel
theorem dX11_init_150 : decode cX11_init 150 = .ok (.aload_n 0, 1) := by decide +kernel
theorem dX11_init_151 : decode cX11_init 151 = .ok (.sipush 200, 3) := by decide +kernel
theorem dX11_init_154 : decode cX11_init 154 = .ok (.newarray .int, 2) := by decide +kernel
theorem dX11_init_156 : decode cX11_init 156 = .ok (.putfield 66, 3) := by decide +kernel
theorem dX11_init_159 : decode cX11_init 159 = .ok (.aload_n 0, 1) := by decide +kernel
theorem dX11_init_160 : decode cX11_init 160 = .ok (.bipush 64, 2) := by decide +kernel
theorem dX11_init_162 : decode cX11_init 162 = .ok (.newarray .int, 2) := by decide +kernel
theorem dX11_init_164 : decode cX11_init 164 = .ok (.putfield 69, 3) := by decide +kernel
theorem dX11_init_167 : decode cX11_init 167 = .ok (.aload_n 0, 1) := by decide +kernel
theorem dX11_init_168 : decode cX11_init 168 = .ok (.bipush 64, 2) := by decide +kernel
theorem dX11_init_170 : decode cX11_init 170 = .ok (.newarray .int, 2) := by decide +kernel
theorem dX11_init_172 : decode cX11_init 172 = .ok (.putfield 72, 3) := by decide +kernel
theorem dX11_init_175 : decode cX11_init 175 = .ok (.aload_n 0, 1) := by decide +kernel
theorem dX11_init_176 : decode cX11_init 176 = .ok (.sipush 576, 3) := by decide +kernel
theorem dX11_init_179 : decode cX11_init 179 = .ok (.newarray .long, 2) := by decide +kernel
theorem dX11_init_181 : decode cX11_init 181 = .ok (.putfield 75, 3) := by decide +kernel
theorem dX11_init_184 : decode cX11_init 184 = .ok (.aload_n 0, 1) := by decide +kernel
theorem dX11_init_185 : decode cX11_init 185 = .ok (.bipush 9, 2) := by decide +kernel
theorem dX11_init_187 : decode cX11_init 187 = .ok (.newarray .long, 2) := by decide +kernel
theorem dX11_init_189 : decode cX11_init 189 = .ok (.putfield 78, 3) := by decide +kernel
theorem dX11_init_192 : decode cX11_init 192 = .ok (.aload_n 0, 1) := by decide +kernel
theorem dX11_init_193 : decode cX11_init 193 = .ok (.bipush 7, 2) := by decide +kernel
theorem dX11_init_195 : decode cX11_init 195 = .ok (.newarray .int, 2) := by decide +kernel
theorem dX11_init_197 : decode cX11_init 197 = .ok (.putfield 81, 3) := by decide +kernel
theorem dX11_init_200 : decode cX11_init 200 = .ok (.aload_n 0, 1) := by decide +kernel
theorem dX11_init_201 : decode cX11_init 201 = .ok (.bipush 6, 2) := by decide +kernel
theorem dX11_init_203 : decode cX11_init 203 = .ok (.newarray .long, 2) := by decide +kernel
theorem dX11_init_205 : decode cX11_init 205 = .ok (.putfield 84, 3) := by decide +kernel
theorem dX11_init_208 : decode cX11_init 208 = .ok (.aload_n 0, 1) := by decide +kernel
theorem dX11_init_209 : decode cX11_init 209 = .ok (.bipush 6, 2) := by decide +kernel
theorem dX11_init_211 : decode cX11_init 211 = .ok (.newarray .long, 2) := by decide +kernel
theorem dX11_init_213 : decode cX11_init 213 = .ok (.putfield 87, 3) := by decide +kernel
theorem dX11_init_216 : decode cX11_init 216 = .ok (.aload_n 0, 1) := by decide +kernel
theorem dX11_init_217 : decode cX11_init 217 = .ok (.bipush 6, 2) := by decide +kernel
theorem dX11_init_219 : decode cX11_init 219 = .ok (.newarray .long, 2) := by decide +kernel
theorem dX11_init_221 : decode cX11_init 221 = .ok (.putfield 90, 3) := by decide +kernel
theorem dX11_init_224 : decode cX11_init 224 = .ok (.aload_n 0, 1) := by decide +kernel
theorem dX11_init_225 : decode cX11_init 225 = .ok (.iconst 4, 1) := by decide +kernel
theorem dX11_init_226 : decode cX11_init 226 = .ok (.newarray .int, 2) := by decide +kernel
theorem dX11_init_228 : decode cX11_init 228 = .ok (.dup, 1) := by decide +kernel
theorem dX11_init_229 : decode cX11_init 229 = .ok (.iconst 0, 1) := by decide +kernel
theorem dX11_init_230 : decode cX11_init 230 = .ok (.iconst (-1), 1) := by decide +kernel
theorem dX11_init_231 : decode cX11_init 231 = .ok (.iastore, 1) := by decide +kernel
theorem dX11_init_232 : decode cX11_init 232 = .ok (.dup, 1) := by decide +kernel
theorem dX11_init_233 : decode cX11_init 233 = .ok (.iconst 1, 1) := by decide +kernel
theorem dX11_init_234 : decode cX11_init 234 = .ok (.iconst (-1), 1) := by decide +kernel
theorem dX11_init_235 : decode cX11_init 235 = .ok (.iastore, 1) := by decide +kernel
theorem dX11_init_236 : decode cX11_init 236 = .ok (.dup, 1) := by decide +kernel
theorem dX11_init_237 : decode cX11_init 237 = .ok (.iconst 2, 1) := by decide +kernel
theorem dX11_init_238 : decode cX11_init 238 = .ok (.iconst (-1), 1) := by decide +kernel
theorem dX11_init_239 : decode cX11_init 239 = .ok (.iastore, 1) := by decide +kernel
theorem dX11_init_240 : decode cX11_init 240 = .ok (.dup, 1) := by decide +kernel
theorem dX11_init_241 : decode cX11_init 241 = .ok (.iconst 3, 1) := by decide +kernel
theorem dX11_init_242 : decode cX11_init 242 = .ok (.iconst (-1), 1) := by decide +kernel
theorem dX11_init_243 : decode cX11_init 243 = .ok (.iastore, 1) := by decide +kernel
theorem dX11_init_244 : decode cX11_init 244 = .ok (.putfield 93, 3) := by decide +kernel
theorem dX11_init_247 : decode cX11_init 247 = .ok (.aload_n 0, 1) := by decide +kernel
theorem dX11_init_248 : decode cX11_init 248 = .ok (.iconst 4, 1) := by decide +kernel
theorem dX11_init_249 : decode cX11_init 249 = .ok (.newarray .int, 2) := by decide +kernel
theorem dX11_init_251 : decode cX11_init 251 = .ok (.putfield 96, 3) := by decide +kernel
theorem dX11_init_254 : decode cX11_init 254 = .ok (.aload_n 0, 1) := by decide +kernel
theorem dX11_init_255 : decode cX11_init 255 = .ok (.sipush 160, 3) := by decide +kernel
theorem dX11_init_258 : decode cX11_init 258 = .ok (.newarray .long, 2) := by decide +kernel
theorem dX11_init_260 : decode cX11_init 260 = .ok (.putfield 99, 3) := by decide +kernel
theorem dX11_init_263 : decode cX11_init 263 = .ok (.aload_n 0, 1) := by decide +kernel
theorem dX11_init_264 : decode cX11_init 264 = .ok (.iconst 4, 1) := by decide +kernel
theorem dX11_init_265 : decode cX11_init 265 = .ok (.newarray .int, 2) := by decide +kernel
theorem dX11_init_267 : decode cX11_init 267 = .ok (.dup, 1) := by decide +kernel
theorem dX11_init_268 : decode cX11_init 268 = .ok (.iconst 0, 1) := by decide +kernel
theorem dX11_init_269 : decode cX11_init 269 = .ok (.iconst (-1), 1) := by decide +kernel
theorem dX11_init_270 : decode cX11_init 270 = .ok (.iastore, 1) := by decide +kernel
theorem dX11_init_271 : decode cX11_init 271 = .ok (.dup, 1) := by decide +kernel
theorem dX11_init_272 : decode cX11_init 272 = .ok (.iconst 1, 1) := by decide +kernel
theorem dX11_init_273 : decode cX11_init 273 = .ok (.iconst (-1), 1) := by decide +kernel
theorem dX11_init_274 : decode cX11_init 274 = .ok (.iastore, 1) := by decide +kernel
theorem dX11_init_275 : decode cX11_init 275 = .ok (.dup, 1) := by decide +kernel
theorem dX11_init_276 : decode cX11_init 276 = .ok (.iconst 2, 1) := by decide +kernel
theorem dX11_init_277 : decode cX11_init 277 = .ok (.iconst (-1), 1) := by decide +kernel
theorem dX11_init_278 : decode cX11_init 278 = .ok (.iastore, 1) := by decide +kernel
theorem dX11_init_279 : decode cX11_init 279 = .ok (.dup, 1) := by decide +kernel
theorem dX11_init_280 : decode cX11_init 280 = .ok (.iconst 3, 1) := by decide +kernel
theorem dX11_init_281 : decode cX11_init 281 = .ok (.iconst (-1), 1) := by decide +kernel
theorem dX11_init_282 : decode cX11_init 282 = .ok (.iastore, 1) := by decide +kernel
theorem dX11_init_283 : decode cX11_init 283 = .ok (.putfield 102, 3) := by decide +kernel
theorem dX11_init_286 : decode cX11_init 286 = .ok (.aload_n 0, 1) := by decide +kernel
theorem dX11_init_287 : decode cX11_init 287 = .ok (.iconst 4, 1) := by decide +kernel
theorem dX11_init_288 : decode cX11_init 288 = .ok (.newarray .int, 2) := by decide +kernel
theorem dX11_init_290 : decode cX11_init 290 = .ok (.putfield 105, 3) := by decide +kernel
theorem dX11_init_293 : decode cX11_init 293 = .ok (.aload_n 0, 1) := by decide +kernel
theorem dX11_init_294 : decode cX11_init 294 = .ok (.bipush 12, 2) := by decide +kernel
theorem dX11_init_296 : decode cX11_init 296 = .ok (.newarray .long, 2) := by decide +kernel
theorem dX11_init_298 : decode cX11_init 298 = .ok (.putfield 108, 3) := by decide +kernel
theorem dX11_init_301 : decode cX11_init 301 = .ok (.iconst 0, 1) := by decide +kernel
theorem dX11_init_302 : decode cX11_init 302 = .ok (.istore_n 1, 1) := by decide +kernel
theorem dX11_init_303 : decode cX11_init 303 = .ok (.iload_n 1, 1) := by decide +kernel
theorem dX11_init_304 : decode cX11_init 304 = .ok (.bipush 8, 2) := by decide +kernel
theorem dX11_init_306 : decode cX11_init 306 = .ok (.if_icmp .ge 22, 3) := by decide +kernel
theorem dX11_init_309 : decode cX11_init 309 = .ok (.aload_n 0, 1) := by decide +kernel
theorem dX11_init_310 : decode cX11_init 310 = .ok (.getfield 7, 3) := by decide +kernel
theorem dX11_init_313 : decode cX11_init 313 = .ok (.bipush 84, 2) := by decide +kernel
theorem dX11_init_315 : decode cX11_init 315 = .ok (.bipush 11, 2) := by decide +kernel
theorem dX11_init_317 : decode cX11_init 317 = .ok (.iload_n 1, 1) := by decide +kernel
theorem dX11_init_318 : decode cX11_init 318 = .ok (.imul, 1) := by decide +kernel
theorem dX11_init_319 : decode cX11_init 319 = .ok (.iadd, 1) := by decide +kernel
theorem dX11_init_320 : decode cX11_init 320 = .ok (.iconst (-1), 1) := by decide +kernel
theorem dX11_init_321 : decode cX11_init 321 = .ok (.iastore, 1) := by decide +kernel
theorem dX11_init_322 : decode cX11_init 322 = .ok (.iinc 1 1, 3) := by decide +kernel
theorem dX11_init_325 : decode cX11_init 325 = .ok (.goto (-22), 3) := by decide +kernel
theorem dX11_init_328 : decode cX11_init 328 = .ok (.return_, 1) := by decide +kernel
theorem dX11_in_0 : decode cX11_in 0 = .ok (.lload_n 0, 1) := by decide +kernel
theorem dX11_in_1 : decode cX11_in 1 = .ok (.lload_n 2, 1) := by decide +kernel
theorem dX11_in_2 : decode cX11_in 2 = .ok (.lcmp, 1) := by decide +kernel
theorem dX11_in_3 : decode cX11_in 3 = .ok (.ifCond .lt 14, 3) := by decide +kernel
theorem dX11_in_6 : decode cX11_in 6 = .ok (.lload_n 0, 1) := by decide +kernel
theorem dX11_in_7 : decode cX11_in 7 = .ok (.lload 4, 2) := by decide +kernel
theorem dX11_in_9 : decode cX11_in 9 = .ok (.lcmp, 1) := by decide +kernel
theorem dX11_in_10 : decode cX11_in 10 = .ok (.ifCond .gt 7, 3) := by decide +kernel
theorem dX11_in_13 : decode cX11_in 13 = .ok (.iconst 1, 1) := by decide +kernel
theorem dX11_in_14 : decode cX11_in 14 = .ok (.goto 4, 3) := by decide +kernel
theorem dX11_in_17 : decode cX11_in 17 = .ok (.iconst 0, 1) := by decide +kernel
theorem dX11_in_18 : decode cX11_in 18 = .ok (.ireturn, 1) := by decide +kernel
theorem dX11_told_0 : decode cX11_told 0 = .ok (.iload_n 0, 1) := by decide +kernel
theorem dX11_told_1 : decode cX11_told 1 = .ok (.i2l, 1) := by decide +kernel
theorem dX11_told_2 : decode cX11_told 2 = .ok (.ldc2_w 111, 3) := by decide +kernel
theorem dX11_told_5 : decode cX11_told 5 = .ok (.lsub, 1) := by decide +kernel
theorem dX11_told_6 : decode cX11_told 6 = .ok (.lreturn, 1) := by decide +kernel
theorem dX11_common_0 : decode cX11_common 0 = .ok (.lload_n 0, 1) := by decide +kernel
theorem dX11_common_1 : decode cX11_common 1 = .ok (.lconst 0, 1) := by decide +kernel
theorem dX11_common_2 : decode cX11_common 2 = .ok (.lcmp, 1) := by decide +kernel
theorem dX11_common_3 : decode cX11_common 3 = .ok (.ifCond .ge 8, 3) := by decide +kernel
theorem dX11_common_6 : decode cX11_common 6 = .ok (.lload_n 0, 1) := by decide +kernel
theorem dX11_common_7 : decode cX11_common 7 = .ok (.lneg, 1) := by decide +kernel
theorem dX11_common_8 : decode cX11_common 8 = .ok (.goto 4, 3) := by decide +kernel
theorem dX11_common_11 : decode cX11_common 11 = .ok (.lload_n 0, 1) := by decide +kernel
theorem dX11_common_12 : decode cX11_common 12 = .ok (.lstore 4, 2) := by decide +kernel
theorem dX11_common_14 : decode cX11_common 14 = .ok (.lload_n 2, 1) := by decide +kernel
theorem dX11_common_15 : decode cX11_common 15 = .ok (.lconst 0, 1) := by decide +kernel
theorem dX11_common_16 : decode cX11_common 16 = .ok (.lcmp, 1) := by decide +kernel
theorem dX11_common_17 : decode cX11_common 17 = .ok (.ifCond .ge 8, 3) := by decide +kernel
theorem dX11_common_20 : decode cX11_common 20 = .ok (.lload_n 2, 1) := by decide +kernel
theorem dX11_common_21 : decode cX11_common 21 = .ok (.lneg, 1) := by decide +kernel
theorem dX11_common_22 : decode cX11_common 22 = .ok (.goto 4, 3) := by decide +kernel
theorem dX11_common_25 : decode cX11_common 25 = .ok (.lload_n 2, 1) := by decide +kernel
theorem dX11_common_26 : decode cX11_common 26 = .ok (.lstore 6, 2) := by decide +kernel
theorem dX11_common_28 : decode cX11_common 28 = .ok (.lload 6, 2) := by decide +kernel
theorem dX11_common_30 : decode cX11_common 30 = .ok (.lconst 0, 1) := by decide +kernel
theorem dX11_common_31 : decode cX11_common 31 = .ok (.lcmp, 1) := by decide +kernel
theorem dX11_common_32 : decode cX11_common 32 = .ok (.ifCond .eq 21, 3) := by decide +kernel
theorem dX11_common_35 : decode cX11_common 35 = .ok (.lload 4, 2) := by decide +kernel
theorem dX11_common_37 : decode cX11_common 37 = .ok (.lload 6, 2) := by decide +kernel
theorem dX11_common_39 : decode cX11_common 39 = .ok (.lrem, 1) := by decide +kernel
theorem dX11_common_40 : decode cX11_common 40 = .ok (.lstore 8, 2) := by decide +kernel
theorem dX11_common_42 : decode cX11_common 42 = .ok (.lload 6, 2) := by decide +kernel
theorem dX11_common_44 : decode cX11_common 44 = .ok (.lstore 4, 2) := by decide +kernel
theorem dX11_common_46 : decode cX11_common 46 = .ok (.lload 8, 2) := by decide +kernel
theorem dX11_common_48 : decode cX11_common 48 = .ok (.lstore 6, 2) := by decide +kernel
theorem dX11_common_50 : decode cX11_common 50 = .ok (.goto (-22), 3) := by decide +kernel
theorem dX11_common_53 : decode cX11_common 53 = .ok (.lload 4, 2) := by decide +kernel
theorem dX11_common_55 : decode cX11_common 55 = .ok (.lreturn, 1) := by decide +kernel
theorem dX11_floored_0 : decode cX11_floored 0 = .ok (.lload_n 0, 1) := by decide +kernel
theorem dX11_floored_1 : decode cX11_floored 1 = .ok (.lload_n 2, 1) := by decide +kernel
theorem dX11_floored_2 : decode cX11_floored 2 = .ok (.ldiv, 1) := by decide +kernel
theorem dX11_floored_3 : decode cX11_floored 3 = .ok (.lstore 4, 2) := by decide +kernel
theorem dX11_floored_5 : decode cX11_floored 5 = .ok (.lload_n 0, 1) := by decide +kernel
theorem dX11_floored_6 : decode cX11_floored 6 = .ok (.lload_n 2, 1) := by decide +kernel
theorem dX11_floored_7 : decode cX11_floored 7 = .ok (.lrem, 1) := by decide +kernel
theorem dX11_floored_8 : decode cX11_floored 8 = .ok (.lconst 0, 1) := by decide +kernel
theorem dX11_floored_9 : decode cX11_floored 9 = .ok (.lcmp, 1) := by decide +kernel
theorem dX11_floored_10 : decode cX11_floored 10 = .ok (.ifCond .ge 10, 3) := by decide +kernel
theorem dX11_floored_13 : decode cX11_floored 13 = .ok (.lload 4, 2) := by decide +kernel
theorem dX11_floored_15 : decode cX11_floored 15 = .ok (.lconst 1, 1) := by decide +kernel
theorem dX11_floored_16 : decode cX11_floored 16 = .ok (.lsub, 1) := by decide +kernel
theorem dX11_floored_17 : decode cX11_floored 17 = .ok (.goto 5, 3) := by decide +kernel
theorem dX11_floored_20 : decode cX11_floored 20 = .ok (.lload 4, 2) := by decide +kernel
theorem dX11_floored_22 : decode cX11_floored 22 = .ok (.lreturn, 1) := by decide +kernel
theorem dX11_saves_0 : decode cX11_saves 0 = .ok (.iconst 0, 1) := by decide +kernel
theorem dX11_saves_1 : decode cX11_saves 1 = .ok (.istore 4, 2) := by decide +kernel
theorem dX11_saves_3 : decode cX11_saves 3 = .ok (.iload 4, 2) := by decide +kernel
theorem dX11_saves_5 : decode cX11_saves 5 = .ok (.sipush 353, 3) := by decide +kernel
theorem dX11_saves_8 : decode cX11_saves 8 = .ok (.if_icmp .ge 21, 3) := by decide +kernel
theorem dX11_saves_11 : decode cX11_saves 11 = .ok (.aload_n 2, 1) := by decide +kernel
theorem dX11_saves_12 : decode cX11_saves 12 = .ok (.iload_n 3, 1) := by decide +kernel
theorem dX11_saves_13 : decode cX11_saves 13 = .ok (.iload 4, 2) := by decide +kernel
theorem dX11_saves_15 : decode cX11_saves 15 = .ok (.iadd, 1) := by decide +kernel
theorem dX11_saves_16 : decode cX11_saves 16 = .ok (.aload_n 0, 1) := by decide +kernel
theorem dX11_saves_17 : decode cX11_saves 17 = .ok (.iload_n 1, 1) := by decide +kernel
theorem dX11_saves_18 : decode cX11_saves 18 = .ok (.iload 4, 2) := by decide +kernel
theorem dX11_saves_20 : decode cX11_saves 20 = .ok (.iadd, 1) := by decide +kernel
theorem dX11_saves_21 : decode cX11_saves 21 = .ok (.iaload, 1) := by decide +kernel
theorem dX11_saves_22 : decode cX11_saves 22 = .ok (.iastore, 1) := by decide +kernel
theorem dX11_saves_23 : decode cX11_saves 23 = .ok (.iinc 4 1, 3) := by decide +kernel
theorem dX11_saves_26 : decode cX11_saves 26 = .ok (.goto (-23), 3) := by decide +kernel
theorem dX11_saves_29 : decode cX11_saves 29 = .ok (.return_, 1) := by decide +kernel
theorem dX11_changes_0 : decode cX11_changes 0 = .ok (.aload_n 0, 1) := by decide +kernel
theorem dX11_changes_1 : decode cX11_changes 1 = .ok (.getfield 113, 3) := by decide +kernel
theorem dX11_changes_4 : decode cX11_changes 4 = .ok (.bipush 20, 2) := by decide +kernel
theorem dX11_changes_6 : decode cX11_changes 6 = .ok (.if_icmp .ne 44, 3) := by decide +kernel
theorem dX11_changes_9 : decode cX11_changes 9 = .ok (.iconst 0, 1) := by decide +kernel
theorem dX11_changes_10 : decode cX11_changes 10 = .ok (.istore_n 1, 1) := by decide +kernel
theorem dX11_changes_11 : decode cX11_changes 11 = .ok (.iload_n 1, 1) := by decide +kernel
theorem dX11_changes_12 : decode cX11_changes 12 = .ok (.sipush 6707, 3) := by decide +kernel
theorem dX11_changes_15 : decode cX11_changes 15 = .ok (.if_icmp .ge 25, 3) := by decide +kernel
theorem dX11_changes_18 : decode cX11_changes 18 = .ok (.aload_n 0, 1) := by decide +kernel
theorem dX11_changes_19 : decode cX11_changes 19 = .ok (.getfield 16, 3) := by decide +kernel
theorem dX11_changes_22 : decode cX11_changes 22 = .ok (.iload_n 1, 1) := by decide +kernel
theorem dX11_changes_23 : decode cX11_changes 23 = .ok (.aload_n 0, 1) := by decide +kernel
theorem dX11_changes_24 : decode cX11_changes 24 = .ok (.getfield 16, 3) := by decide +kernel
theorem dX11_changes_27 : decode cX11_changes 27 = .ok (.iload_n 1, 1) := by decide +kernel
theorem dX11_changes_28 : decode cX11_changes 28 = .ok (.sipush 353, 3) := by decide +kernel
theorem dX11_changes_31 : decode cX11_changes 31 = .ok (.iadd, 1) := by decide +kernel
theorem dX11_changes_32 : decode cX11_changes 32 = .ok (.iaload, 1) := by decide +kernel
theorem dX11_changes_33 : decode cX11_changes 33 = .ok (.iastore, 1) := by decide +kernel
theorem dX11_changes_34 : decode cX11_changes 34 = .ok (.iinc 1 1, 3) := by decide +kernel
theorem dX11_changes_37 : decode cX11_changes 37 = .ok (.goto (-26), 3) := by decide +kernel
theorem dX11_changes_40 : decode cX11_changes 40 = .ok (.aload_n 0, 1) := by decide +kernel
theorem dX11_changes_41 : decode cX11_changes 41 = .ok (.dup, 1) := by decide +kernel
theorem dX11_changes_42 : decode cX11_changes 42 = .ok (.getfield 113, 3) := by decide +kernel
theorem dX11_changes_45 : decode cX11_changes 45 = .ok (.iconst 1, 1) := by decide +kernel
theorem dX11_changes_46 : decode cX11_changes 46 = .ok (.isub, 1) := by decide +kernel
theorem dX11_changes_47 : decode cX11_changes 47 = .ok (.putfield 113, 3) := by decide +kernel
theorem dX11_changes_50 : decode cX11_changes 50 = .ok (.aload_n 0, 1) := by decide +kernel
theorem dX11_changes_51 : decode cX11_changes 51 = .ok (.getfield 7, 3) := by decide +kernel
theorem dX11_changes_54 : decode cX11_changes 54 = .ok (.iconst 0, 1) := by decide +kernel
theorem dX11_changes_55 : decode cX11_changes 55 = .ok (.aload_n 0, 1) := by decide +kernel
theorem dX11_changes_56 : decode cX11_changes 56 = .ok (.getfield 16, 3) := by decide +kernel
theorem dX11_changes_59 : decode cX11_changes 59 = .ok (.sipush 353, 3) := by decide +kernel
theorem dX11_changes_62 : decode cX11_changes 62 = .ok (.aload_n 0, 1) := by decide +kernel
theorem dX11_changes_63 : decode cX11_changes 63 = .ok (.getfield 113, 3) := by decide +kernel
theorem dX11_changes_66 : decode cX11_changes 66 = .ok (.imul, 1) := by decide +kernel
theorem dX11_changes_67 : decode cX11_changes 67 = .ok (.invokestatic 117, 3) := by decide +kernel
theorem dX11_changes_70 : decode cX11_changes 70 = .ok (.aload_n 0, 1) := by decide +kernel
theorem dX11_changes_71 : decode cX11_changes 71 = .ok (.dup, 1) := by decide +kernel
theorem dX11_changes_72 : decode cX11_changes 72 = .ok (.getfield 113, 3) := by decide +kernel
theorem dX11_changes_75 : decode cX11_changes 75 = .ok (.iconst 1, 1) := by decide +kernel
theorem dX11_changes_76 : decode cX11_changes 76 = .ok (.iadd, 1) := by decide +kernel
theorem dX11_changes_77 : decode cX11_changes 77 = .ok (.putfield 113, 3) := by decide +kernel
theorem dX11_changes_80 : decode cX11_changes 80 = .ok (.return_, 1) := by decide +kernel
theorem dX11_undo_0 : decode cX11_undo 0 = .ok (.aload_n 0, 1) := by decide +kernel
theorem dX11_undo_1 : decode cX11_undo 1 = .ok (.getfield 113, 3) := by decide +kernel
theorem dX11_undo_4 : decode cX11_undo 4 = .ok (.ifCond .ne 6, 3) := by decide +kernel
theorem dX11_undo_7 : decode cX11_undo 7 = .ok (.bipush (-3), 2) := by decide +kernel
theorem dX11_undo_9 : decode cX11_undo 9 = .ok (.ireturn, 1) := by decide +kernel
theorem dX11_undo_10 : decode cX11_undo 10 = .ok (.aload_n 0, 1) := by decide +kernel
theorem dX11_undo_11 : decode cX11_undo 11 = .ok (.dup, 1) := by decide +kernel
theorem dX11_undo_12 : decode cX11_undo 12 = .ok (.getfield 113, 3) := by decide +kernel
theorem dX11_undo_15 : decode cX11_undo 15 = .ok (.iconst 1, 1) := by decide +kernel
theorem dX11_undo_16 : decode cX11_undo 16 = .ok (.isub, 1) := by decide +kernel
theorem dX11_undo_17 : decode cX11_undo 17 = .ok (.putfield 113, 3) := by decide +kernel
theorem dX11_undo_20 : decode cX11_undo 20 = .ok (.aload_n 0, 1) := by decide +kernel
theorem dX11_undo_21 : decode cX11_undo 21 = .ok (.getfield 16, 3) := by decide +kernel
theorem dX11_undo_24 : decode cX11_undo 24 = .ok (.sipush 353, 3) := by decide +kernel
theorem dX11_undo_27 : decode cX11_undo 27 = .ok (.aload_n 0, 1) := by decide +kernel
theorem dX11_undo_28 : decode cX11_undo 28 = .ok (.getfield 113, 3) := by decide +kernel
theorem dX11_undo_31 : decode cX11_undo 31 = .ok (.imul, 1) := by decide +kernel
theorem dX11_undo_32 : decode cX11_undo 32 = .ok (.aload_n 0, 1) := by decide +kernel
theorem dX11_undo_33 : decode cX11_undo 33 = .ok (.getfield 7, 3) := by decide +kernel
theorem dX11_undo_36 : decode cX11_undo 36 = .ok (.iconst 0, 1) := by decide +kernel
theorem dX11_undo_37 : decode cX11_undo 37 = .ok (.invokestatic 117, 3) := by decide +kernel
theorem dX11_undo_40 : decode cX11_undo 40 = .ok (.aload_n 0, 1) := by decide +kernel
theorem dX11_undo_41 : decode cX11_undo 41 = .ok (.getfield 113, 3) := by decide +kernel
theorem dX11_undo_44 : decode cX11_undo 44 = .ok (.ireturn, 1) := by decide +kernel
theorem dX11_isGroup_0 : decode cX11_isGroup 0 = .ok (.iload_n 0, 1) := by decide +kernel
theorem dX11_isGroup_1 : decode cX11_isGroup 1 = .ok (.i2l, 1) := by decide +kernel
theorem dX11_isGroup_2 : decode cX11_isGroup 2 = .ok (.lconst 0, 1) := by decide +kernel
theorem dX11_isGroup_3 : decode cX11_isGroup 3 = .ok (.ldc2_w 121, 3) := by decide +kernel
theorem dX11_isGroup_6 : decode cX11_isGroup 6 = .ok (.invokestatic 123, 3) := by decide +kernel
theorem dX11_isGroup_9 : decode cX11_isGroup 9 = .ok (.ireturn, 1) := by decide +kernel
theorem dX11_size_0 : decode cX11_size 0 = .ok (.aload_n 0, 1) := by decide +kernel
theorem dX11_size_1 : decode cX11_size 1 = .ok (.getfield 7, 3) := by decide +kernel
theorem dX11_size_4 : decode cX11_size 4 = .ok (.bipush 14, 2) := by decide +kernel
theorem dX11_size_6 : decode cX11_size 6 = .ok (.iload_n 1, 1) := by decide +kernel
theorem dX11_size_7 : decode cX11_size 7 = .ok (.imul, 1) := by decide +kernel
theorem dX11_size_8 : decode cX11_size 8 = .ok (.iaload, 1) := by decide +kernel
theorem dX11_size_9 : decode cX11_size 9 = .ok (.ireturn, 1) := by decide +kernel
theorem dX11_isMap_0 : decode cX11_isMap 0 = .ok (.iload_n 1, 1) := by decide +kernel
theorem dX11_isMap_1 : decode cX11_isMap 1 = .ok (.i2l, 1) := by decide +kernel
theorem dX11_isMap_2 : decode cX11_isMap 2 = .ok (.lconst 0, 1) := by decide +kernel
theorem dX11_isMap_3 : decode cX11_isMap 3 = .ok (.ldc2_w 127, 3) := by decide +kernel
theorem dX11_isMap_6 : decode cX11_isMap 6 = .ok (.invokestatic 123, 3) := by decide +kernel
theorem dX11_isMap_9 : decode cX11_isMap 9 = .ok (.ifCond .eq 22, 3) := by decide +kernel
theorem dX11_isMap_12 : decode cX11_isMap 12 = .ok (.aload_n 0, 1) := by decide +kernel
theorem dX11_isMap_13 : decode cX11_isMap 13 = .ok (.getfield 7, 3) := by decide +kernel
theorem dX11_isMap_16 : decode cX11_isMap 16 = .ok (.bipush 84, 2) := by decide +kernel
theorem dX11_isMap_18 : decode cX11_isMap 18 = .ok (.bipush 11, 2) := by decide +kernel
theorem dX11_isMap_20 : decode cX11_isMap 20 = .ok (.iload_n 1, 1) := by decide +kernel
theorem dX11_isMap_21 : decode cX11_isMap 21 = .ok (.imul, 1) := by decide +kernel
theorem dX11_isMap_22 : decode cX11_isMap 22 = .ok (.iadd, 1) := by decide +kernel
theorem dX11_isMap_23 : decode cX11_isMap 23 = .ok (.iaload, 1) := by decide +kernel
theorem dX11_isMap_24 : decode cX11_isMap 24 = .ok (.ifCond .lt 7, 3) := by decide +kernel
theorem dX11_isMap_27 : decode cX11_isMap 27 = .ok (.iconst 1, 1) := by decide +kernel
theorem dX11_isMap_28 : decode cX11_isMap 28 = .ok (.goto 4, 3) := by decide +kernel
theorem dX11_isMap_31 : decode cX11_isMap 31 = .ok (.iconst 0, 1) := by decide +kernel
theorem dX11_isMap_32 : decode cX11_isMap 32 = .ok (.ireturn, 1) := by decide +kernel
theorem dX11_fromOf_0 : decode cX11_fromOf 0 = .ok (.aload_n 0, 1) := by decide +kernel
theorem dX11_fromOf_1 : decode cX11_fromOf 1 = .ok (.getfield 7, 3) := by decide +kernel
theorem dX11_fromOf_4 : decode cX11_fromOf 4 = .ok (.bipush 84, 2) := by decide +kernel
theorem dX11_fromOf_6 : decode cX11_fromOf 6 = .ok (.bipush 11, 2) := by decide +kernel
theorem dX11_fromOf_8 : decode cX11_fromOf 8 = .ok (.iload_n 1, 1) := by decide +kernel
theorem dX11_fromOf_9 : decode cX11_fromOf 9 = .ok (.imul, 1) := by decide +kernel
theorem dX11_fromOf_10 : decode cX11_fromOf 10 = .ok (.iadd, 1) := by decide +kernel
theorem dX11_fromOf_11 : decode cX11_fromOf 11 = .ok (.iaload, 1) := by decide +kernel
theorem dX11_fromOf_12 : decode cX11_fromOf 12 = .ok (.ireturn, 1) := by decide +kernel
theorem dX11_toOf_0 : decode cX11_toOf 0 = .ok (.aload_n 0, 1) := by decide +kernel
theorem dX11_toOf_1 : decode cX11_toOf 1 = .ok (.getfield 7, 3) := by decide +kernel
theorem dX11_toOf_4 : decode cX11_toOf 4 = .ok (.bipush 84, 2) := by decide +kernel
theorem dX11_toOf_6 : decode cX11_toOf 6 = .ok (.bipush 11, 2) := by decide +kernel
theorem dX11_toOf_8 : decode cX11_toOf 8 = .ok (.iload_n 1, 1) := by decide +kernel
theorem dX11_toOf_9 : decode cX11_toOf 9 = .ok (.imul, 1) := by decide +kernel
theorem dX11_toOf_10 : decode cX11_toOf 10 = .ok (.iadd, 1) := by decide +kernel
theorem dX11_toOf_11 : decode cX11_toOf 11 = .ok (.iconst 1, 1) := by decide +kernel
theorem dX11_toOf_12 : decode cX11_toOf 12 = .ok (.iadd, 1) := by decide +kernel
theorem dX11_toOf_13 : decode cX11_toOf 13 = .ok (.iaload, 1) := by decide +kernel
theorem dX11_toOf_14 : decode cX11_toOf 14 = .ok (.ireturn, 1) := by decide +kernel
theorem dX11_table_0 : decode cX11_table 0 = .ok (.aload_n 0, 1) := by decide +kernel
theorem dX11_table_1 : decode cX11_table 1 = .ok (.getfield 7, 3) := by decide +kernel
theorem dX11_table_4 : decode cX11_table 4 = .ok (.bipush 84, 2) := by decide +kernel
theorem dX11_table_6 : decode cX11_table 6 = .ok (.bipush 11, 2) := by decide +kernel
theorem dX11_table_8 : decode cX11_table 8 = .ok (.iload_n 1, 1) := by decide +kernel
theorem dX11_table_9 : decode cX11_table 9 = .ok (.imul, 1) := by decide +kernel
theorem dX11_table_10 : decode cX11_table 10 = .ok (.iadd, 1) := by decide +kernel
theorem dX11_table_11 : decode cX11_table 11 = .ok (.iconst 2, 1) := by decide +kernel
theorem dX11_table_12 : decode cX11_table 12 = .ok (.iadd, 1) := by decide +kernel
theorem dX11_table_13 : decode cX11_table 13 = .ok (.iconst 3, 1) := by decide +kernel
theorem dX11_table_14 : decode cX11_table 14 = .ok (.iload_n 2, 1) := by decide +kernel
theorem dX11_table_15 : decode cX11_table 15 = .ok (.imul, 1) := by decide +kernel
theorem dX11_table_16 : decode cX11_table 16 = .ok (.iadd, 1) := by decide +kernel
theorem dX11_table_17 : decode cX11_table 17 = .ok (.iload_n 3, 1) := by decide +kernel
theorem dX11_table_18 : decode cX11_table 18 = .ok (.iadd, 1) := by decide +kernel
theorem dX11_table_19 : decode cX11_table 19 = .ok (.iaload, 1) := by decide +kernel
theorem dX11_table_20 : decode cX11_table 20 = .ok (.ireturn, 1) := by decide +kernel
theorem dX11_areNumbers_0 : decode cX11_areNumbers 0 = .ok (.iload_n 0, 1) := by decide +kernel
theorem dX11_areNumbers_1 : decode cX11_areNumbers 1 = .ok (.i2l, 1) := by decide +kernel
theorem dX11_areNumbers_2 : decode cX11_areNumbers 2 = .ok (.ldc2_w 129, 3) := by decide +kernel
theorem dX11_areNumbers_5 : decode cX11_areNumbers 5 = .ok (.ldc2_w 131, 3) := by decide +kernel
theorem dX11_areNumbers_8 : decode cX11_areNumbers 8 = .ok (.invokestatic 123, 3) := by decide +kernel
theorem dX11_areNumbers_11 : decode cX11_areNumbers 11 = .ok (.ifCond .eq 35, 3) := by decide +kernel
theorem dX11_areNumbers_14 : decode cX11_areNumbers 14 = .ok (.iload_n 1, 1) := by decide +kernel
theorem dX11_areNumbers_15 : decode cX11_areNumbers 15 = .ok (.i2l, 1) := by decide +kernel
theorem dX11_areNumbers_16 : decode cX11_areNumbers 16 = .ok (.ldc2_w 129, 3) := by decide +kernel
theorem dX11_areNumbers_19 : decode cX11_areNumbers 19 = .ok (.ldc2_w 131, 3) := by decide +kernel
theorem dX11_areNumbers_22 : decode cX11_areNumbers 22 = .ok (.invokestatic 123, 3) := by decide +kernel
theorem dX11_areNumbers_25 : decode cX11_areNumbers 25 = .ok (.ifCond .eq 21, 3) := by decide +kernel
theorem dX11_areNumbers_28 : decode cX11_areNumbers 28 = .ok (.iload_n 2, 1) := by decide +kernel
theorem dX11_areNumbers_29 : decode cX11_areNumbers 29 = .ok (.i2l, 1) := by decide +kernel
theorem dX11_areNumbers_30 : decode cX11_areNumbers 30 = .ok (.ldc2_w 129, 3) := by decide +kernel
theorem dX11_areNumbers_33 : decode cX11_areNumbers 33 = .ok (.ldc2_w 131, 3) := by decide +kernel
theorem dX11_areNumbers_36 : decode cX11_areNumbers 36 = .ok (.invokestatic 123, 3) := by decide +kernel
theorem dX11_areNumbers_39 : decode cX11_areNumbers 39 = .ok (.ifCond .eq 7, 3) := by decide +kernel
theorem dX11_areNumbers_42 : decode cX11_areNumbers 42 = .ok (.iconst 1, 1) := by decide +kernel
theorem dX11_areNumbers_43 : decode cX11_areNumbers 43 = .ok (.goto 4, 3) := by decide +kernel
theorem dX11_areNumbers_46 : decode cX11_areNumbers 46 = .ok (.iconst 0, 1) := by decide +kernel
theorem dX11_areNumbers_47 : decode cX11_areNumbers 47 = .ok (.ireturn, 1) := by decide +kernel
theorem dX11_heaps_0 : decode cX11_heaps 0 = .ok (.iconst 0, 1) := by decide +kernel
theorem dX11_heaps_1 : decode cX11_heaps 1 = .ok (.istore 5, 2) := by decide +kernel
theorem dX11_heaps_3 : decode cX11_heaps 3 = .ok (.iload 5, 2) := by decide +kernel
theorem dX11_heaps_5 : decode cX11_heaps 5 = .ok (.bipush 6, 2) := by decide +kernel
theorem dX11_heaps_7 : decode cX11_heaps 7 = .ok (.if_icmp .ge 25, 3) := by decide +kernel
theorem dX11_heaps_10 : decode cX11_heaps 10 = .ok (.aload_n 0, 1) := by decide +kernel
theorem dX11_heaps_11 : decode cX11_heaps 11 = .ok (.getfield 19, 3) := by decide +kernel
theorem dX11_heaps_14 : decode cX11_heaps 14 = .ok (.bipush 6, 2) := by decide +kernel
theorem dX11_heaps_16 : decode cX11_heaps 16 = .ok (.aload_n 0, 1) := by decide +kernel
theorem dX11_heaps_17 : decode cX11_heaps 17 = .ok (.getfield 133, 3) := by decide +kernel
theorem dX11_heaps_20 : decode cX11_heaps 20 = .ok (.imul, 1) := by decide +kernel
theorem dX11_heaps_21 : decode cX11_heaps 21 = .ok (.iload 5, 2) := by decide +kernel
theorem dX11_heaps_23 : decode cX11_heaps 23 = .ok (.iadd, 1) := by decide +kernel
theorem dX11_heaps_24 : decode cX11_heaps 24 = .ok (.lconst 0, 1) := by decide +kernel
theorem dX11_heaps_25 : decode cX11_heaps 25 = .ok (.lastore, 1) := by decide +kernel
theorem dX11_heaps_26 : decode cX11_heaps 26 = .ok (.iinc 5 1, 3) := by decide +kernel
theorem dX11_heaps_29 : decode cX11_heaps 29 = .ok (.goto (-26), 3) := by decide +kernel
theorem dX11_heaps_32 : decode cX11_heaps 32 = .ok (.iconst 0, 1) := by decide +kernel
theorem dX11_heaps_33 : decode cX11_heaps 33 = .ok (.istore 5, 2) := by decide +kernel
theorem dX11_heaps_35 : decode cX11_heaps 35 = .ok (.iload 5, 2) := by decide +kernel
theorem dX11_heaps_37 : decode cX11_heaps 37 = .ok (.iload 4, 2) := by decide +kernel
theorem dX11_heaps_39 : decode cX11_heaps 39 = .ok (.if_icmp .ge 32, 3) := by decide +kernel
theorem dX11_heaps_42 : decode cX11_heaps 42 = .ok (.aload_n 0, 1) := by decide +kernel
theorem dX11_heaps_43 : decode cX11_heaps 43 = .ok (.getfield 19, 3) := by decide +kernel
theorem dX11_heaps_46 : decode cX11_heaps 46 = .ok (.bipush 6, 2) := by decide +kernel
theorem dX11_heaps_48 : decode cX11_heaps 48 = .ok (.aload_n 0, 1) := by decide +kernel
theorem dX11_heaps_49 : decode cX11_heaps 49 = .ok (.getfield 133, 3) := by decide +kernel
theorem dX11_heaps_52 : decode cX11_heaps 52 = .ok (.imul, 1) := by decide +kernel
theorem dX11_heaps_53 : decode cX11_heaps 53 = .ok (.iload_n 3, 1) := by decide +kernel
theorem dX11_heaps_54 : decode cX11_heaps 54 = .ok (.iadd, 1) := by decide +kernel
theorem dX11_heaps_55 : decode cX11_heaps 55 = .ok (.iload 5, 2) := by decide +kernel
theorem dX11_heaps_57 : decode cX11_heaps 57 = .ok (.iadd, 1) := by decide +kernel
theorem dX11_heaps_58 : decode cX11_heaps 58 = .ok (.aload_n 1, 1) := by decide +kernel
theorem dX11_heaps_59 : decode cX11_heaps 59 = .ok (.iload_n 2, 1) := by decide +kernel
theorem dX11_heaps_60 : decode cX11_heaps 60 = .ok (.iload 5, 2) := by decide +kernel
theorem dX11_heaps_62 : decode cX11_heaps 62 = .ok (.iadd, 1) := by decide +kernel
theorem dX11_heaps_63 : decode cX11_heaps 63 = .ok (.laload, 1) := by decide +kernel
theorem dX11_heaps_64 : decode cX11_heaps 64 = .ok (.lastore, 1) := by decide +kernel
theorem dX11_heaps_65 : decode cX11_heaps 65 = .ok (.iinc 5 1, 3) := by decide +kernel
theorem dX11_heaps_68 : decode cX11_heaps 68 = .ok (.goto (-33), 3) := by decide +kernel
theorem dX11_heaps_71 : decode cX11_heaps 71 = .ok (.aload_n 0, 1) := by decide +kernel
theorem dX11_heaps_72 : decode cX11_heaps 72 = .ok (.dup, 1) := by decide +kernel
theorem dX11_heaps_73 : decode cX11_heaps 73 = .ok (.getfield 133, 3) := by decide +kernel
theorem dX11_heaps_76 : decode cX11_heaps 76 = .ok (.iconst 1, 1) := by decide +kernel
theorem dX11_heaps_77 : decode cX11_heaps 77 = .ok (.iadd, 1) := by decide +kernel
theorem dX11_heaps_78 : decode cX11_heaps 78 = .ok (.putfield 133, 3) := by decide +kernel
theorem dX11_heaps_81 : decode cX11_heaps 81 = .ok (.return_, 1) := by decide +kernel
theorem dX11_takesAway_0 : decode cX11_takesAway 0 = .ok (.iconst 0, 1) := by decide +kernel
theorem dX11_takesAway_1 : decode cX11_takesAway 1 = .ok (.istore 7, 2) := by decide +kernel
theorem dX11_takesAway_3 : decode cX11_takesAway 3 = .ok (.iload 7, 2) := by decide +kernel
theorem dX11_takesAway_5 : decode cX11_takesAway 5 = .ok (.bipush 6, 2) := by decide +kernel
theorem dX11_takesAway_7 : decode cX11_takesAway 7 = .ok (.if_icmp .ge 34, 3) := by decide +kernel
theorem dX11_takesAway_10 : decode cX11_takesAway 10 = .ok (.aload_n 1, 1) := by decide +kernel
theorem dX11_takesAway_11 : decode cX11_takesAway 11 = .ok (.bipush 6, 2) := by decide +kernel
theorem dX11_takesAway_13 : decode cX11_takesAway 13 = .ok (.iload_n 2, 1) := by decide +kernel
theorem dX11_takesAway_14 : decode cX11_takesAway 14 = .ok (.imul, 1) := by decide +kernel
theorem dX11_takesAway_15 : decode cX11_takesAway 15 = .ok (.iload 7, 2) := by decide +kernel
theorem dX11_takesAway_17 : decode cX11_takesAway 17 = .ok (.iadd, 1) := by decide +kernel
theorem dX11_takesAway_18 : decode cX11_takesAway 18 = .ok (.dup2, 1) := by decide +kernel
theorem dX11_takesAway_19 : decode cX11_takesAway 19 = .ok (.laload, 1) := by decide +kernel
theorem dX11_takesAway_20 : decode cX11_takesAway 20 = .ok (.lload 5, 2) := by decide +kernel
theorem dX11_takesAway_22 : decode cX11_takesAway 22 = .ok (.aload_n 3, 1) := by decide +kernel
theorem dX11_takesAway_23 : decode cX11_takesAway 23 = .ok (.bipush 6, 2) := by decide +kernel
theorem dX11_takesAway_25 : decode cX11_takesAway 25 = .ok (.iload 4, 2) := by decide +kernel
theorem dX11_takesAway_27 : decode cX11_takesAway 27 = .ok (.imul, 1) := by decide +kernel
theorem dX11_takesAway_28 : decode cX11_takesAway 28 = .ok (.iload 7, 2) := by decide +kernel
theorem dX11_takesAway_30 : decode cX11_takesAway 30 = .ok (.iadd, 1) := by decide +kernel
theorem dX11_takesAway_31 : decode cX11_takesAway 31 = .ok (.laload, 1) := by decide +kernel
theorem dX11_takesAway_32 : decode cX11_takesAway 32 = .ok (.lmul, 1) := by decide +kernel
theorem dX11_takesAway_33 : decode cX11_takesAway 33 = .ok (.lsub, 1) := by decide +kernel
theorem dX11_takesAway_34 : decode cX11_takesAway 34 = .ok (.lastore, 1) := by decide +kernel
theorem dX11_takesAway_35 : decode cX11_takesAway 35 = .ok (.iinc 7 1, 3) := by decide +kernel
theorem dX11_takesAway_38 : decode cX11_takesAway 38 = .ok (.goto (-35), 3) := by decide +kernel
theorem dX11_takesAway_41 : decode cX11_takesAway 41 = .ok (.return_, 1) := by decide +kernel
theorem dX11_leastAt_0 : decode cX11_leastAt 0 = .ok (.iconst (-1), 1) := by decide +kernel
theorem dX11_leastAt_1 : decode cX11_leastAt 1 = .ok (.istore_n 3, 1) := by decide +kernel
theorem dX11_leastAt_2 : decode cX11_leastAt 2 = .ok (.iload_n 1, 1) := by decide +kernel
theorem dX11_leastAt_3 : decode cX11_leastAt 3 = .ok (.istore 4, 2) := by decide +kernel
theorem dX11_leastAt_5 : decode cX11_leastAt 5 = .ok (.iload 4, 2) := by decide +kernel
theorem dX11_leastAt_7 : decode cX11_leastAt 7 = .ok (.aload_n 0, 1) := by decide +kernel
theorem dX11_leastAt_8 : decode cX11_leastAt 8 = .ok (.getfield 133, 3) := by decide +kernel
theorem dX11_leastAt_11 : decode cX11_leastAt 11 = .ok (.if_icmp .ge 61, 3) := by decide +kernel
theorem dX11_leastAt_14 : decode cX11_leastAt 14 = .ok (.aload_n 0, 1) := by decide +kernel
theorem dX11_leastAt_15 : decode cX11_leastAt 15 = .ok (.getfield 19, 3) := by decide +kernel
theorem dX11_leastAt_18 : decode cX11_leastAt 18 = .ok (.bipush 6, 2) := by decide +kernel
theorem dX11_leastAt_20 : decode cX11_leastAt 20 = .ok (.iload 4, 2) := by decide +kernel
theorem dX11_leastAt_22 : decode cX11_leastAt 22 = .ok (.imul, 1) := by decide +kernel
theorem dX11_leastAt_23 : decode cX11_leastAt 23 = .ok (.iload_n 2, 1) := by decide +kernel
theorem dX11_leastAt_24 : decode cX11_leastAt 24 = .ok (.iadd, 1) := by decide +kernel
theorem dX11_leastAt_25 : decode cX11_leastAt 25 = .ok (.laload, 1) := by decide +kernel
theorem dX11_leastAt_26 : decode cX11_leastAt 26 = .ok (.invokestatic 136, 3) := by decide +kernel
theorem dX11_leastAt_29 : decode cX11_leastAt 29 = .ok (.lstore 5, 2) := by decide +kernel
theorem dX11_leastAt_31 : decode cX11_leastAt 31 = .ok (.lload 5, 2) := by decide +kernel
theorem dX11_leastAt_33 : decode cX11_leastAt 33 = .ok (.lconst 0, 1) := by decide +kernel
theorem dX11_leastAt_34 : decode cX11_leastAt 34 = .ok (.lcmp, 1) := by decide +kernel
theorem dX11_leastAt_35 : decode cX11_leastAt 35 = .ok (.ifCond .eq 31, 3) := by decide +kernel
theorem dX11_leastAt_38 : decode cX11_leastAt 38 = .ok (.iload_n 3, 1) := by decide +kernel
theorem dX11_leastAt_39 : decode cX11_leastAt 39 = .ok (.iconst (-1), 1) := by decide +kernel
theorem dX11_leastAt_40 : decode cX11_leastAt 40 = .ok (.if_icmp .eq 23, 3) := by decide +kernel
theorem dX11_leastAt_43 : decode cX11_leastAt 43 = .ok (.lload 5, 2) := by decide +kernel
theorem dX11_leastAt_45 : decode cX11_leastAt 45 = .ok (.aload_n 0, 1) := by decide +kernel
theorem dX11_leastAt_46 : decode cX11_leastAt 46 = .ok (.getfield 19, 3) := by decide +kernel
theorem dX11_leastAt_49 : decode cX11_leastAt 49 = .ok (.bipush 6, 2) := by decide +kernel
theorem dX11_leastAt_51 : decode cX11_leastAt 51 = .ok (.iload_n 3, 1) := by decide +kernel
theorem dX11_leastAt_52 : decode cX11_leastAt 52 = .ok (.imul, 1) := by decide +kernel
theorem dX11_leastAt_53 : decode cX11_leastAt 53 = .ok (.iload_n 2, 1) := by decide +kernel
theorem dX11_leastAt_54 : decode cX11_leastAt 54 = .ok (.iadd, 1) := by decide +kernel
theorem dX11_leastAt_55 : decode cX11_leastAt 55 = .ok (.laload, 1) := by decide +kernel
theorem dX11_leastAt_56 : decode cX11_leastAt 56 = .ok (.invokestatic 136, 3) := by decide +kernel
theorem dX11_leastAt_59 : decode cX11_leastAt 59 = .ok (.lcmp, 1) := by decide +kernel
theorem dX11_leastAt_60 : decode cX11_leastAt 60 = .ok (.ifCond .ge 6, 3) := by decide +kernel
theorem dX11_leastAt_63 : decode cX11_leastAt 63 = .ok (.iload 4, 2) := by decide +kernel
theorem dX11_leastAt_65 : decode cX11_leastAt 65 = .ok (.istore_n 3, 1) := by decide +kernel
theorem dX11_leastAt_66 : decode cX11_leastAt 66 = .ok (.iinc 4 1, 3) := by decide +kernel
theorem dX11_leastAt_69 : decode cX11_leastAt 69 = .ok (.goto (-64), 3) := by decide +kernel
theorem dX11_leastAt_72 : decode cX11_leastAt 72 = .ok (.iload_n 3, 1) := by decide +kernel
theorem dX11_leastAt_73 : decode cX11_leastAt 73 = .ok (.ireturn, 1) := by decide +kernel
theorem dX11_sizeOf_0 : decode cX11_sizeOf 0 = .ok (.lload_n 0, 1) := by decide +kernel
theorem dX11_sizeOf_1 : decode cX11_sizeOf 1 = .ok (.lconst 0, 1) := by decide +kernel
theorem dX11_sizeOf_2 : decode cX11_sizeOf 2 = .ok (.lcmp, 1) := by decide +kernel
theorem dX11_sizeOf_3 : decode cX11_sizeOf 3 = .ok (.ifCond .ge 8, 3) := by decide +kernel
theorem dX11_sizeOf_6 : decode cX11_sizeOf 6 = .ok (.lload_n 0, 1) := by decide +kernel
theorem dX11_sizeOf_7 : decode cX11_sizeOf 7 = .ok (.lneg, 1) := by decide +kernel
theorem dX11_sizeOf_8 : decode cX11_sizeOf 8 = .ok (.goto 4, 3) := by decide +kernel
theorem dX11_sizeOf_11 : decode cX11_sizeOf 11 = .ok (.lload_n 0, 1) := by decide +kernel
theorem dX11_sizeOf_12 : decode cX11_sizeOf 12 = .ok (.lreturn, 1) := by decide +kernel
theorem dX11_swaps_0 : decode cX11_swaps 0 = .ok (.iconst 0, 1) := by decide +kernel
theorem dX11_swaps_1 : decode cX11_swaps 1 = .ok (.istore_n 3, 1) := by decide +kernel
theorem dX11_swaps_2 : decode cX11_swaps 2 = .ok (.iload_n 3, 1) := by decide +kernel
theorem dX11_swaps_3 : decode cX11_swaps 3 = .ok (.bipush 6, 2) := by decide +kernel
theorem dX11_swaps_5 : decode cX11_swaps 5 = .ok (.if_icmp .ge 57, 3) := by decide +kernel
theorem dX11_swaps_8 : decode cX11_swaps 8 = .ok (.aload_n 0, 1) := by decide +kernel
theorem dX11_swaps_9 : decode cX11_swaps 9 = .ok (.getfield 19, 3) := by decide +kernel
theorem dX11_swaps_12 : decode cX11_swaps 12 = .ok (.bipush 6, 2) := by decide +kernel
theorem dX11_swaps_14 : decode cX11_swaps 14 = .ok (.iload_n 1, 1) := by decide +kernel
theorem dX11_swaps_15 : decode cX11_swaps 15 = .ok (.imul, 1) := by decide +kernel
theorem dX11_swaps_16 : decode cX11_swaps 16 = .ok (.iload_n 3, 1) := by decide +kernel
theorem dX11_swaps_17 : decode cX11_swaps 17 = .ok (.iadd, 1) := by decide +kernel
theorem dX11_swaps_18 : decode cX11_swaps 18 = .ok (.laload, 1) := by decide +kernel
theorem dX11_swaps_19 : decode cX11_swaps 19 = .ok (.lstore 4, 2) := by decide +kernel
theorem dX11_swaps_21 : decode cX11_swaps 21 = .ok (.aload_n 0, 1) := by decide +kernel
theorem dX11_swaps_22 : decode cX11_swaps 22 = .ok (.getfield 19, 3) := by decide +kernel
theorem dX11_swaps_25 : decode cX11_swaps 25 = .ok (.bipush 6, 2) := by decide +kernel
theorem dX11_swaps_27 : decode cX11_swaps 27 = .ok (.iload_n 1, 1) := by decide +kernel
theorem dX11_swaps_28 : decode cX11_swaps 28 = .ok (.imul, 1) := by decide +kernel
theorem dX11_swaps_29 : decode cX11_swaps 29 = .ok (.iload_n 3, 1) := by decide +kernel
theorem dX11_swaps_30 : decode cX11_swaps 30 = .ok (.iadd, 1) := by decide +kernel
theorem dX11_swaps_31 : decode cX11_swaps 31 = .ok (.aload_n 0, 1) := by decide +kernel
theorem dX11_swaps_32 : decode cX11_swaps 32 = .ok (.getfield 19, 3) := by decide +kernel
theorem dX11_swaps_35 : decode cX11_swaps 35 = .ok (.bipush 6, 2) := by decide +kernel
theorem dX11_swaps_37 : decode cX11_swaps 37 = .ok (.iload_n 2, 1) := by decide +kernel
theorem dX11_swaps_38 : decode cX11_swaps 38 = .ok (.imul, 1) := by decide +kernel
theorem dX11_swaps_39 : decode cX11_swaps 39 = .ok (.iload_n 3, 1) := by decide +kernel
theorem dX11_swaps_40 : decode cX11_swaps 40 = .ok (.iadd, 1) := by decide +kernel
theorem dX11_swaps_41 : decode cX11_swaps 41 = .ok (.laload, 1) := by decide +kernel
theorem dX11_swaps_42 : decode cX11_swaps 42 = .ok (.lastore, 1) := by decide +kernel
theorem dX11_swaps_43 : decode cX11_swaps 43 = .ok (.aload_n 0, 1) := by decide +kernel
theorem dX11_swaps_44 : decode cX11_swaps 44 = .ok (.getfield 19, 3) := by decide +kernel
theorem dX11_swaps_47 : decode cX11_swaps 47 = .ok (.bipush 6, 2) := by decide +kernel
theorem dX11_swaps_49 : decode cX11_swaps 49 = .ok (.iload_n 2, 1) := by decide +kernel
theorem dX11_swaps_50 : decode cX11_swaps 50 = .ok (.imul, 1) := by decide +kernel
theorem dX11_swaps_51 : decode cX11_swaps 51 = .ok (.iload_n 3, 1) := by decide +kernel
theorem dX11_swaps_52 : decode cX11_swaps 52 = .ok (.iadd, 1) := by decide +kernel
theorem dX11_swaps_53 : decode cX11_swaps 53 = .ok (.lload 4, 2) := by decide +kernel
theorem dX11_swaps_55 : decode cX11_swaps 55 = .ok (.lastore, 1) := by decide +kernel
theorem dX11_swaps_56 : decode cX11_swaps 56 = .ok (.iinc 3 1, 3) := by decide +kernel
theorem dX11_swaps_59 : decode cX11_swaps 59 = .ok (.goto (-57), 3) := by decide +kernel
theorem dX11_swaps_62 : decode cX11_swaps 62 = .ok (.return_, 1) := by decide +kernel
theorem dX11_leadsAt_0 : decode cX11_leadsAt 0 = .ok (.aload_n 0, 1) := by decide +kernel
theorem dX11_leadsAt_1 : decode cX11_leadsAt 1 = .ok (.iload_n 1, 1) := by decide +kernel
theorem dX11_leadsAt_2 : decode cX11_leadsAt 2 = .ok (.iload_n 2, 1) := by decide +kernel
theorem dX11_leadsAt_3 : decode cX11_leadsAt 3 = .ok (.invokevirtual 140, 3) := by decide +kernel
theorem dX11_leadsAt_6 : decode cX11_leadsAt 6 = .ok (.istore_n 3, 1) := by decide +kernel
theorem dX11_leadsAt_7 : decode cX11_leadsAt 7 = .ok (.iload_n 3, 1) := by decide +kernel
theorem dX11_leadsAt_8 : decode cX11_leadsAt 8 = .ok (.iconst (-1), 1) := by decide +kernel
theorem dX11_leadsAt_9 : decode cX11_leadsAt 9 = .ok (.if_icmp .ne 5, 3) := by decide +kernel
theorem dX11_leadsAt_12 : decode cX11_leadsAt 12 = .ok (.iconst 0, 1) := by decide +kernel
theorem dX11_leadsAt_13 : decode cX11_leadsAt 13 = .ok (.ireturn, 1) := by decide +kernel
theorem dX11_leadsAt_14 : decode cX11_leadsAt 14 = .ok (.aload_n 0, 1) := by decide +kernel
theorem dX11_leadsAt_15 : decode cX11_leadsAt 15 = .ok (.iload_n 1, 1) := by decide +kernel
theorem dX11_leadsAt_16 : decode cX11_leadsAt 16 = .ok (.iload_n 3, 1) := by decide +kernel
theorem dX11_leadsAt_17 : decode cX11_leadsAt 17 = .ok (.invokevirtual 144, 3) := by decide +kernel
theorem dX11_leadsAt_20 : decode cX11_leadsAt 20 = .ok (.iconst 1, 1) := by decide +kernel
theorem dX11_leadsAt_21 : decode cX11_leadsAt 21 = .ok (.istore 4, 2) := by decide +kernel
theorem dX11_leadsAt_23 : decode cX11_leadsAt 23 = .ok (.iload_n 1, 1) := by decide +kernel
theorem dX11_leadsAt_24 : decode cX11_leadsAt 24 = .ok (.iconst 1, 1) := by decide +kernel
theorem dX11_leadsAt_25 : decode cX11_leadsAt 25 = .ok (.iadd, 1) := by decide +kernel
theorem dX11_leadsAt_26 : decode cX11_leadsAt 26 = .ok (.istore 5, 2) := by decide +kernel
theorem dX11_leadsAt_28 : decode cX11_leadsAt 28 = .ok (.iload 5, 2) := by decide +kernel
theorem dX11_leadsAt_30 : decode cX11_leadsAt 30 = .ok (.aload_n 0, 1) := by decide +kernel
theorem dX11_leadsAt_31 : decode cX11_leadsAt 31 = .ok (.getfield 133, 3) := by decide +kernel
theorem dX11_leadsAt_34 : decode cX11_leadsAt 34 = .ok (.if_icmp .ge 77, 3) := by decide +kernel
theorem dX11_leadsAt_37 : decode cX11_leadsAt 37 = .ok (.aload_n 0, 1) := by decide +kernel
theorem dX11_leadsAt_38 : decode cX11_leadsAt 38 = .ok (.aload_n 0, 1) := by decide +kernel
theorem dX11_leadsAt_39 : decode cX11_leadsAt 39 = .ok (.getfield 19, 3) := by decide +kernel
theorem dX11_leadsAt_42 : decode cX11_leadsAt 42 = .ok (.iload 5, 2) := by decide +kernel
theorem dX11_leadsAt_44 : decode cX11_leadsAt 44 = .ok (.aload_n 0, 1) := by decide +kernel
theorem dX11_leadsAt_45 : decode cX11_leadsAt 45 = .ok (.getfield 19, 3) := by decide +kernel
theorem dX11_leadsAt_48 : decode cX11_leadsAt 48 = .ok (.iload_n 1, 1) := by decide +kernel
theorem dX11_leadsAt_49 : decode cX11_leadsAt 49 = .ok (.aload_n 0, 1) := by decide +kernel
theorem dX11_leadsAt_50 : decode cX11_leadsAt 50 = .ok (.getfield 19, 3) := by decide +kernel
theorem dX11_leadsAt_53 : decode cX11_leadsAt 53 = .ok (.bipush 6, 2) := by decide +kernel
theorem dX11_leadsAt_55 : decode cX11_leadsAt 55 = .ok (.iload 5, 2) := by decide +kernel
theorem dX11_leadsAt_57 : decode cX11_leadsAt 57 = .ok (.imul, 1) := by decide +kernel
theorem dX11_leadsAt_58 : decode cX11_leadsAt 58 = .ok (.iload_n 2, 1) := by decide +kernel
theorem dX11_leadsAt_59 : decode cX11_leadsAt 59 = .ok (.iadd, 1) := by decide +kernel
theorem dX11_leadsAt_60 : decode cX11_leadsAt 60 = .ok (.laload, 1) := by decide +kernel
theorem dX11_leadsAt_61 : decode cX11_leadsAt 61 = .ok (.aload_n 0, 1) := by decide +kernel
theorem dX11_leadsAt_62 : decode cX11_leadsAt 62 = .ok (.getfield 19, 3) := by decide +kernel
theorem dX11_leadsAt_65 : decode cX11_leadsAt 65 = .ok (.bipush 6, 2) := by decide +kernel
theorem dX11_leadsAt_67 : decode cX11_leadsAt 67 = .ok (.iload_n 1, 1) := by decide +kernel
theorem dX11_leadsAt_68 : decode cX11_leadsAt 68 = .ok (.imul, 1) := by decide +kernel
theorem dX11_leadsAt_69 : decode cX11_leadsAt 69 = .ok (.iload_n 2, 1) := by decide +kernel
theorem dX11_leadsAt_70 : decode cX11_leadsAt 70 = .ok (.iadd, 1) := by decide +kernel
theorem dX11_leadsAt_71 : decode cX11_leadsAt 71 = .ok (.laload, 1) := by decide +kernel
theorem dX11_leadsAt_72 : decode cX11_leadsAt 72 = .ok (.ldiv, 1) := by decide +kernel
theorem dX11_leadsAt_73 : decode cX11_leadsAt 73 = .ok (.invokevirtual 148, 3) := by decide +kernel
theorem dX11_leadsAt_76 : decode cX11_leadsAt 76 = .ok (.iload 4, 2) := by decide +kernel
theorem dX11_leadsAt_78 : decode cX11_leadsAt 78 = .ok (.ifCond .eq 24, 3) := by decide +kernel
theorem dX11_leadsAt_81 : decode cX11_leadsAt 81 = .ok (.aload_n 0, 1) := by decide +kernel
theorem dX11_leadsAt_82 : decode cX11_leadsAt 82 = .ok (.getfield 19, 3) := by decide +kernel
theorem dX11_leadsAt_85 : decode cX11_leadsAt 85 = .ok (.bipush 6, 2) := by decide +kernel
theorem dX11_leadsAt_87 : decode cX11_leadsAt 87 = .ok (.iload 5, 2) := by decide +kernel
theorem dX11_leadsAt_89 : decode cX11_leadsAt 89 = .ok (.imul, 1) := by decide +kernel
theorem dX11_leadsAt_90 : decode cX11_leadsAt 90 = .ok (.iload_n 2, 1) := by decide +kernel
theorem dX11_leadsAt_91 : decode cX11_leadsAt 91 = .ok (.iadd, 1) := by decide +kernel
theorem dX11_leadsAt_92 : decode cX11_leadsAt 92 = .ok (.laload, 1) := by decide +kernel
theorem dX11_leadsAt_93 : decode cX11_leadsAt 93 = .ok (.lconst 0, 1) := by decide +kernel
theorem dX11_leadsAt_94 : decode cX11_leadsAt 94 = .ok (.lcmp, 1) := by decide +kernel
theorem dX11_leadsAt_95 : decode cX11_leadsAt 95 = .ok (.ifCond .ne 7, 3) := by decide +kernel
theorem dX11_leadsAt_98 : decode cX11_leadsAt 98 = .ok (.iconst 1, 1) := by decide +kernel
theorem dX11_leadsAt_99 : decode cX11_leadsAt 99 = .ok (.goto 4, 3) := by decide +kernel
theorem dX11_leadsAt_102 : decode cX11_leadsAt 102 = .ok (.iconst 0, 1) := by decide +kernel
theorem dX11_leadsAt_103 : decode cX11_leadsAt 103 = .ok (.istore 4, 2) := by decide +kernel
theorem dX11_leadsAt_105 : decode cX11_leadsAt 105 = .ok (.iinc 5 1, 3) := by decide +kernel
theorem dX11_leadsAt_108 : decode cX11_leadsAt 108 = .ok (.goto (-80), 3) := by decide +kernel
theorem dX11_leadsAt_111 : decode cX11_leadsAt 111 = .ok (.iload 4, 2) := by decide +kernel
theorem dX11_leadsAt_113 : decode cX11_leadsAt 113 = .ok (.ifCond .eq 5, 3) := by decide +kernel
theorem dX11_leadsAt_116 : decode cX11_leadsAt 116 = .ok (.iconst 1, 1) := by decide +kernel
theorem dX11_leadsAt_117 : decode cX11_leadsAt 117 = .ok (.ireturn, 1) := by decide +kernel
theorem dX11_leadsAt_118 : decode cX11_leadsAt 118 = .ok (.goto (-118), 3) := by decide +kernel
theorem dX11_works_0 : decode cX11_works 0 = .ok (.iconst 0, 1) := by decide +kernel
theorem dX11_works_1 : decode cX11_works 1 = .ok (.istore_n 3, 1) := by decide +kernel
theorem dX11_works_2 : decode cX11_works 2 = .ok (.iload_n 3, 1) := by decide +kernel
theorem dX11_works_3 : decode cX11_works 3 = .ok (.bipush 36, 2) := by decide +kernel
theorem dX11_works_5 : decode cX11_works 5 = .ok (.if_icmp .ge 13, 3) := by decide +kernel
theorem dX11_works_8 : decode cX11_works 8 = .ok (.aload_n 2, 1) := by decide +kernel
theorem dX11_works_9 : decode cX11_works 9 = .ok (.iload_n 3, 1) := by decide +kernel
theorem dX11_works_10 : decode cX11_works 10 = .ok (.lconst 0, 1) := by decide +kernel
theorem dX11_works_11 : decode cX11_works 11 = .ok (.lastore, 1) := by decide +kernel
theorem dX11_works_12 : decode cX11_works 12 = .ok (.iinc 3 1, 3) := by decide +kernel
theorem dX11_works_15 : decode cX11_works 15 = .ok (.goto (-13), 3) := by decide +kernel
theorem dX11_works_18 : decode cX11_works 18 = .ok (.iconst 0, 1) := by decide +kernel
theorem dX11_works_19 : decode cX11_works 19 = .ok (.istore_n 3, 1) := by decide +kernel
theorem dX11_works_20 : decode cX11_works 20 = .ok (.iconst 0, 1) := by decide +kernel
theorem dX11_works_21 : decode cX11_works 21 = .ok (.istore 4, 2) := by decide +kernel
theorem dX11_works_23 : decode cX11_works 23 = .ok (.iload 4, 2) := by decide +kernel
theorem dX11_works_25 : decode cX11_works 25 = .ok (.iload_n 1, 1) := by decide +kernel
theorem dX11_works_26 : decode cX11_works 26 = .ok (.if_icmp .ge 92, 3) := by decide +kernel
theorem dX11_works_29 : decode cX11_works 29 = .ok (.aload_n 0, 1) := by decide +kernel
theorem dX11_works_30 : decode cX11_works 30 = .ok (.iload_n 3, 1) := by decide +kernel
theorem dX11_works_31 : decode cX11_works 31 = .ok (.iload 4, 2) := by decide +kernel
theorem dX11_works_33 : decode cX11_works 33 = .ok (.invokevirtual 152, 3) := by decide +kernel
theorem dX11_works_36 : decode cX11_works 36 = .ok (.ifCond .ne 6, 3) := by decide +kernel
theorem dX11_works_39 : decode cX11_works 39 = .ok (.goto 73, 3) := by decide +kernel
theorem dX11_works_42 : decode cX11_works 42 = .ok (.aload_n 0, 1) := by decide +kernel
theorem dX11_works_43 : decode cX11_works 43 = .ok (.getfield 19, 3) := by decide +kernel
theorem dX11_works_46 : decode cX11_works 46 = .ok (.bipush 6, 2) := by decide +kernel
theorem dX11_works_48 : decode cX11_works 48 = .ok (.iload_n 3, 1) := by decide +kernel
theorem dX11_works_49 : decode cX11_works 49 = .ok (.imul, 1) := by decide +kernel
theorem dX11_works_50 : decode cX11_works 50 = .ok (.iload 4, 2) := by decide +kernel
theorem dX11_works_52 : decode cX11_works 52 = .ok (.iadd, 1) := by decide +kernel
theorem dX11_works_53 : decode cX11_works 53 = .ok (.laload, 1) := by decide +kernel
theorem dX11_works_54 : decode cX11_works 54 = .ok (.lconst 0, 1) := by decide +kernel
theorem dX11_works_55 : decode cX11_works 55 = .ok (.lcmp, 1) := by decide +kernel
theorem dX11_works_56 : decode cX11_works 56 = .ok (.ifCond .ge 9, 3) := by decide +kernel
theorem dX11_works_59 : decode cX11_works 59 = .ok (.ldc2_w 156, 3) := by decide +kernel
theorem dX11_works_62 : decode cX11_works 62 = .ok (.goto 4, 3) := by decide +kernel
theorem dX11_works_65 : decode cX11_works 65 = .ok (.lconst 1, 1) := by decide +kernel
theorem dX11_works_66 : decode cX11_works 66 = .ok (.lstore 5, 2) := by decide +kernel
theorem dX11_works_68 : decode cX11_works 68 = .ok (.iconst 0, 1) := by decide +kernel
theorem dX11_works_69 : decode cX11_works 69 = .ok (.istore 7, 2) := by decide +kernel
theorem dX11_works_71 : decode cX11_works 71 = .ok (.iload 7, 2) := by decide +kernel
theorem dX11_works_73 : decode cX11_works 73 = .ok (.bipush 6, 2) := by decide +kernel
theorem dX11_works_75 : decode cX11_works 75 = .ok (.if_icmp .ge 34, 3) := by decide +kernel
theorem dX11_works_78 : decode cX11_works 78 = .ok (.aload_n 2, 1) := by decide +kernel
theorem dX11_works_79 : decode cX11_works 79 = .ok (.bipush 6, 2) := by decide +kernel
theorem dX11_works_81 : decode cX11_works 81 = .ok (.iload 4, 2) := by decide +kernel
theorem dX11_works_83 : decode cX11_works 83 = .ok (.imul, 1) := by decide +kernel
theorem dX11_works_84 : decode cX11_works 84 = .ok (.iload 7, 2) := by decide +kernel
theorem dX11_works_86 : decode cX11_works 86 = .ok (.iadd, 1) := by decide +kernel
theorem dX11_works_87 : decode cX11_works 87 = .ok (.lload 5, 2) := by decide +kernel
theorem dX11_works_89 : decode cX11_works 89 = .ok (.aload_n 0, 1) := by decide +kernel
theorem dX11_works_90 : decode cX11_works 90 = .ok (.getfield 19, 3) := by decide +kernel
theorem dX11_works_93 : decode cX11_works 93 = .ok (.bipush 6, 2) := by decide +kernel
theorem dX11_works_95 : decode cX11_works 95 = .ok (.iload_n 3, 1) := by decide +kernel
theorem dX11_works_96 : decode cX11_works 96 = .ok (.imul, 1) := by decide +kernel
theorem dX11_works_97 : decode cX11_works 97 = .ok (.iload 7, 2) := by decide +kernel
theorem dX11_works_99 : decode cX11_works 99 = .ok (.iadd, 1) := by decide +kernel
theorem dX11_works_100 : decode cX11_works 100 = .ok (.laload, 1) := by decide +kernel
theorem dX11_works_101 : decode cX11_works 101 = .ok (.lmul, 1) := by decide +kernel
theorem dX11_works_102 : decode cX11_works 102 = .ok (.lastore, 1) := by decide +kernel
theorem dX11_works_103 : decode cX11_works 103 = .ok (.iinc 7 1, 3) := by decide +kernel
theorem dX11_works_106 : decode cX11_works 106 = .ok (.goto (-35), 3) := by decide +kernel
theorem dX11_works_109 : decode cX11_works 109 = .ok (.iinc 3 1, 3) := by decide +kernel
theorem dX11_works_112 : decode cX11_works 112 = .ok (.iinc 4 1, 3) := by decide +kernel
theorem dX11_works_115 : decode cX11_works 115 = .ok (.goto (-92), 3) := by decide +kernel
theorem dX11_works_118 : decode cX11_works 118 = .ok (.iload_n 1, 1) := by decide +kernel
theorem dX11_works_119 : decode cX11_works 119 = .ok (.iconst 1, 1) := by decide +kernel
theorem dX11_works_120 : decode cX11_works 120 = .ok (.isub, 1) := by decide +kernel
theorem dX11_works_121 : decode cX11_works 121 = .ok (.istore 4, 2) := by decide +kernel
theorem dX11_works_123 : decode cX11_works 123 = .ok (.iload 4, 2) := by decide +kernel
theorem dX11_works_125 : decode cX11_works 125 = .ok (.ifCond .lt 69, 3) := by decide +kernel
theorem dX11_works_128 : decode cX11_works 128 = .ok (.iload 4, 2) := by decide +kernel
theorem dX11_works_130 : decode cX11_works 130 = .ok (.iconst 1, 1) := by decide +kernel
theorem dX11_works_131 : decode cX11_works 131 = .ok (.iadd, 1) := by decide +kernel
theorem dX11_works_132 : decode cX11_works 132 = .ok (.istore 5, 2) := by decide +kernel
theorem dX11_works_134 : decode cX11_works 134 = .ok (.iload 5, 2) := by decide +kernel
theorem dX11_works_136 : decode cX11_works 136 = .ok (.iload_n 1, 1) := by decide +kernel
theorem dX11_works_137 : decode cX11_works 137 = .ok (.if_icmp .ge 51, 3) := by decide +kernel
theorem dX11_works_140 : decode cX11_works 140 = .ok (.aload_n 2, 1) := by decide +kernel
theorem dX11_works_141 : decode cX11_works 141 = .ok (.bipush 7, 2) := by decide +kernel
theorem dX11_works_143 : decode cX11_works 143 = .ok (.iload 5, 2) := by decide +kernel
theorem dX11_works_145 : decode cX11_works 145 = .ok (.imul, 1) := by decide +kernel
theorem dX11_works_146 : decode cX11_works 146 = .ok (.laload, 1) := by decide +kernel
theorem dX11_works_147 : decode cX11_works 147 = .ok (.lconst 0, 1) := by decide +kernel
theorem dX11_works_148 : decode cX11_works 148 = .ok (.lcmp, 1) := by decide +kernel
theorem dX11_works_149 : decode cX11_works 149 = .ok (.ifCond .eq 33, 3) := by decide +kernel
theorem dX11_works_152 : decode cX11_works 152 = .ok (.aload_n 0, 1) := by decide +kernel
theorem dX11_works_153 : decode cX11_works 153 = .ok (.aload_n 2, 1) := by decide +kernel
theorem dX11_works_154 : decode cX11_works 154 = .ok (.iload 4, 2) := by decide +kernel
theorem dX11_works_156 : decode cX11_works 156 = .ok (.aload_n 2, 1) := by decide +kernel
theorem dX11_works_157 : decode cX11_works 157 = .ok (.iload 5, 2) := by decide +kernel
theorem dX11_works_159 : decode cX11_works 159 = .ok (.aload_n 2, 1) := by decide +kernel
theorem dX11_works_160 : decode cX11_works 160 = .ok (.bipush 6, 2) := by decide +kernel
theorem dX11_works_162 : decode cX11_works 162 = .ok (.iload 4, 2) := by decide +kernel
theorem dX11_works_164 : decode cX11_works 164 = .ok (.imul, 1) := by decide +kernel
theorem dX11_works_165 : decode cX11_works 165 = .ok (.iload 5, 2) := by decide +kernel
theorem dX11_works_167 : decode cX11_works 167 = .ok (.iadd, 1) := by decide +kernel
theorem dX11_works_168 : decode cX11_works 168 = .ok (.laload, 1) := by decide +kernel
theorem dX11_works_169 : decode cX11_works 169 = .ok (.aload_n 2, 1) := by decide +kernel
theorem dX11_works_170 : decode cX11_works 170 = .ok (.bipush 7, 2) := by decide +kernel
theorem dX11_works_172 : decode cX11_works 172 = .ok (.iload 5, 2) := by decide +kernel
theorem dX11_works_174 : decode cX11_works 174 = .ok (.imul, 1) := by decide +kernel
theorem dX11_works_175 : decode cX11_works 175 = .ok (.laload, 1) := by decide +kernel
theorem dX11_works_176 : decode cX11_works 176 = .ok (.invokestatic 158, 3) := by decide +kernel
theorem dX11_works_179 : decode cX11_works 179 = .ok (.invokevirtual 148, 3) := by decide +kernel
theorem dX11_works_182 : decode cX11_works 182 = .ok (.iinc 5 1, 3) := by decide +kernel
theorem dX11_works_185 : decode cX11_works 185 = .ok (.goto (-51), 3) := by decide +kernel
theorem dX11_works_188 : decode cX11_works 188 = .ok (.iinc 4 (-1), 3) := by decide +kernel
theorem dX11_works_191 : decode cX11_works 191 = .ok (.goto (-68), 3) := by decide +kernel
theorem dX11_works_194 : decode cX11_works 194 = .ok (.return_, 1) := by decide +kernel
theorem dX11_rests_0 : decode cX11_rests 0 = .ok (.iload_n 2, 1) := by decide +kernel
theorem dX11_rests_1 : decode cX11_rests 1 = .ok (.istore 4, 2) := by decide +kernel
theorem dX11_rests_3 : decode cX11_rests 3 = .ok (.iload 4, 2) := by decide +kernel
theorem dX11_rests_5 : decode cX11_rests 5 = .ok (.iload_n 3, 1) := by decide +kernel
theorem dX11_rests_6 : decode cX11_rests 6 = .ok (.if_icmp .ge 77, 3) := by decide +kernel
theorem dX11_rests_9 : decode cX11_rests 9 = .ok (.aload_n 1, 1) := by decide +kernel
theorem dX11_rests_10 : decode cX11_rests 10 = .ok (.bipush 7, 2) := by decide +kernel
theorem dX11_rests_12 : decode cX11_rests 12 = .ok (.iload 4, 2) := by decide +kernel
theorem dX11_rests_14 : decode cX11_rests 14 = .ok (.imul, 1) := by decide +kernel
theorem dX11_rests_15 : decode cX11_rests 15 = .ok (.laload, 1) := by decide +kernel
theorem dX11_rests_16 : decode cX11_rests 16 = .ok (.lconst 0, 1) := by decide +kernel
theorem dX11_rests_17 : decode cX11_rests 17 = .ok (.lcmp, 1) := by decide +kernel
theorem dX11_rests_18 : decode cX11_rests 18 = .ok (.ifCond .ne 6, 3) := by decide +kernel
theorem dX11_rests_21 : decode cX11_rests 21 = .ok (.goto 56, 3) := by decide +kernel
theorem dX11_rests_24 : decode cX11_rests 24 = .ok (.aload_n 0, 1) := by decide +kernel
theorem dX11_rests_25 : decode cX11_rests 25 = .ok (.iload 4, 2) := by decide +kernel
theorem dX11_rests_27 : decode cX11_rests 27 = .ok (.laload, 1) := by decide +kernel
theorem dX11_rests_28 : decode cX11_rests 28 = .ok (.aload_n 1, 1) := by decide +kernel
theorem dX11_rests_29 : decode cX11_rests 29 = .ok (.bipush 7, 2) := by decide +kernel
theorem dX11_rests_31 : decode cX11_rests 31 = .ok (.iload 4, 2) := by decide +kernel
theorem dX11_rests_33 : decode cX11_rests 33 = .ok (.imul, 1) := by decide +kernel
theorem dX11_rests_34 : decode cX11_rests 34 = .ok (.laload, 1) := by decide +kernel
theorem dX11_rests_35 : decode cX11_rests 35 = .ok (.invokestatic 158, 3) := by decide +kernel
theorem dX11_rests_38 : decode cX11_rests 38 = .ok (.lstore 5, 2) := by decide +kernel
theorem dX11_rests_40 : decode cX11_rests 40 = .ok (.iload 4, 2) := by decide +kernel
theorem dX11_rests_42 : decode cX11_rests 42 = .ok (.istore 7, 2) := by decide +kernel
theorem dX11_rests_44 : decode cX11_rests 44 = .ok (.iload 7, 2) := by decide +kernel
theorem dX11_rests_46 : decode cX11_rests 46 = .ok (.bipush 6, 2) := by decide +kernel
theorem dX11_rests_48 : decode cX11_rests 48 = .ok (.if_icmp .ge 29, 3) := by decide +kernel
theorem dX11_rests_51 : decode cX11_rests 51 = .ok (.aload_n 0, 1) := by decide +kernel
theorem dX11_rests_52 : decode cX11_rests 52 = .ok (.iload 7, 2) := by decide +kernel
theorem dX11_rests_54 : decode cX11_rests 54 = .ok (.dup2, 1) := by decide +kernel
theorem dX11_rests_55 : decode cX11_rests 55 = .ok (.laload, 1) := by decide +kernel
theorem dX11_rests_56 : decode cX11_rests 56 = .ok (.lload 5, 2) := by decide +kernel
theorem dX11_rests_58 : decode cX11_rests 58 = .ok (.aload_n 1, 1) := by decide +kernel
theorem dX11_rests_59 : decode cX11_rests 59 = .ok (.bipush 6, 2) := by decide +kernel
theorem dX11_rests_61 : decode cX11_rests 61 = .ok (.iload 4, 2) := by decide +kernel
theorem dX11_rests_63 : decode cX11_rests 63 = .ok (.imul, 1) := by decide +kernel
theorem dX11_rests_64 : decode cX11_rests 64 = .ok (.iload 7, 2) := by decide +kernel
theorem dX11_rests_66 : decode cX11_rests 66 = .ok (.iadd, 1) := by decide +kernel
theorem dX11_rests_67 : decode cX11_rests 67 = .ok (.laload, 1) := by decide +kernel
theorem dX11_rests_68 : decode cX11_rests 68 = .ok (.lmul, 1) := by decide +kernel
theorem dX11_rests_69 : decode cX11_rests 69 = .ok (.lsub, 1) := by decide +kernel
theorem dX11_rests_70 : decode cX11_rests 70 = .ok (.lastore, 1) := by decide +kernel
theorem dX11_rests_71 : decode cX11_rests 71 = .ok (.iinc 7 1, 3) := by decide +kernel
theorem dX11_rests_74 : decode cX11_rests 74 = .ok (.goto (-30), 3) := by decide +kernel
theorem dX11_rests_77 : decode cX11_rests 77 = .ok (.iinc 4 1, 3) := by decide +kernel
theorem dX11_rests_80 : decode cX11_rests 80 = .ok (.goto (-77), 3) := by decide +kernel
theorem dX11_rests_83 : decode cX11_rests 83 = .ok (.return_, 1) := by decide +kernel
theorem dX11_isNothing_0 : decode cX11_isNothing 0 = .ok (.iconst 1, 1) := by decide +kernel
theorem dX11_isNothing_1 : decode cX11_isNothing 1 = .ok (.istore_n 3, 1) := by decide +kernel
theorem dX11_isNothing_2 : decode cX11_isNothing 2 = .ok (.iload_n 1, 1) := by decide +kernel
theorem dX11_isNothing_3 : decode cX11_isNothing 3 = .ok (.istore 4, 2) := by decide +kernel
theorem dX11_isNothing_5 : decode cX11_isNothing 5 = .ok (.iload 4, 2) := by decide +kernel
theorem dX11_isNothing_7 : decode cX11_isNothing 7 = .ok (.iload_n 2, 1) := by decide +kernel
theorem dX11_isNothing_8 : decode cX11_isNothing 8 = .ok (.if_icmp .ge 28, 3) := by decide +kernel
theorem dX11_isNothing_11 : decode cX11_isNothing 11 = .ok (.iload_n 3, 1) := by decide +kernel
theorem dX11_isNothing_12 : decode cX11_isNothing 12 = .ok (.ifCond .eq 16, 3) := by decide +kernel
theorem dX11_isNothing_15 : decode cX11_isNothing 15 = .ok (.aload_n 0, 1) := by decide +kernel
theorem dX11_isNothing_16 : decode cX11_isNothing 16 = .ok (.iload 4, 2) := by decide +kernel
theorem dX11_isNothing_18 : decode cX11_isNothing 18 = .ok (.laload, 1) := by decide +kernel
theorem dX11_isNothing_19 : decode cX11_isNothing 19 = .ok (.lconst 0, 1) := by decide +kernel
theorem dX11_isNothing_20 : decode cX11_isNothing 20 = .ok (.lcmp, 1) := by decide +kernel
theorem dX11_isNothing_21 : decode cX11_isNothing 21 = .ok (.ifCond .ne 7, 3) := by decide +kernel
theorem dX11_isNothing_24 : decode cX11_isNothing 24 = .ok (.iconst 1, 1) := by decide +kernel
theorem dX11_isNothing_25 : decode cX11_isNothing 25 = .ok (.goto 4, 3) := by decide +kernel
theorem dX11_isNothing_28 : decode cX11_isNothing 28 = .ok (.iconst 0, 1) := by decide +kernel
theorem dX11_isNothing_29 : decode cX11_isNothing 29 = .ok (.istore_n 3, 1) := by decide +kernel
theorem dX11_isNothing_30 : decode cX11_isNothing 30 = .ok (.iinc 4 1, 3) := by decide +kernel
theorem dX11_isNothing_33 : decode cX11_isNothing 33 = .ok (.goto (-28), 3) := by decide +kernel
theorem dX11_isNothing_36 : decode cX11_isNothing 36 = .ok (.iload_n 3, 1) := by decide +kernel
theorem dX11_isNothing_37 : decode cX11_isNothing 37 = .ok (.ireturn, 1) := by decide +kernel
theorem dX11_areAlike_0 : decode cX11_areAlike 0 = .ok (.iconst 1, 1) := by decide +kernel
theorem dX11_areAlike_1 : decode cX11_areAlike 1 = .ok (.istore_n 2, 1) := by decide +kernel
theorem dX11_areAlike_2 : decode cX11_areAlike 2 = .ok (.iconst 0, 1) := by decide +kernel
theorem dX11_areAlike_3 : decode cX11_areAlike 3 = .ok (.istore_n 3, 1) := by decide +kernel
theorem dX11_areAlike_4 : decode cX11_areAlike 4 = .ok (.iload_n 3, 1) := by decide +kernel
theorem dX11_areAlike_5 : decode cX11_areAlike 5 = .ok (.bipush 36, 2) := by decide +kernel
theorem dX11_areAlike_7 : decode cX11_areAlike 7 = .ok (.if_icmp .ge 29, 3) := by decide +kernel
theorem dX11_areAlike_10 : decode cX11_areAlike 10 = .ok (.iload_n 2, 1) := by decide +kernel
theorem dX11_areAlike_11 : decode cX11_areAlike 11 = .ok (.ifCond .eq 17, 3) := by decide +kernel
theorem dX11_areAlike_14 : decode cX11_areAlike 14 = .ok (.aload_n 0, 1) := by decide +kernel
theorem dX11_areAlike_15 : decode cX11_areAlike 15 = .ok (.iload_n 3, 1) := by decide +kernel
theorem dX11_areAlike_16 : decode cX11_areAlike 16 = .ok (.laload, 1) := by decide +kernel
theorem dX11_areAlike_17 : decode cX11_areAlike 17 = .ok (.aload_n 1, 1) := by decide +kernel
theorem dX11_areAlike_18 : decode cX11_areAlike 18 = .ok (.iload_n 3, 1) := by decide +kernel
theorem dX11_areAlike_19 : decode cX11_areAlike 19 = .ok (.laload, 1) := by decide +kernel
theorem dX11_areAlike_20 : decode cX11_areAlike 20 = .ok (.lcmp, 1) := by decide +kernel
theorem dX11_areAlike_21 : decode cX11_areAlike 21 = .ok (.ifCond .ne 7, 3) := by decide +kernel
theorem dX11_areAlike_24 : decode cX11_areAlike 24 = .ok (.iconst 1, 1) := by decide +kernel
theorem dX11_areAlike_25 : decode cX11_areAlike 25 = .ok (.goto 4, 3) := by decide +kernel
theorem dX11_areAlike_28 : decode cX11_areAlike 28 = .ok (.iconst 0, 1) := by decide +kernel
theorem dX11_areAlike_29 : decode cX11_areAlike 29 = .ok (.istore_n 2, 1) := by decide +kernel
theorem dX11_areAlike_30 : decode cX11_areAlike 30 = .ok (.iinc 3 1, 3) := by decide +kernel
theorem dX11_areAlike_33 : decode cX11_areAlike 33 = .ok (.goto (-29), 3) := by decide +kernel
theorem dX11_areAlike_36 : decode cX11_areAlike 36 = .ok (.iload_n 2, 1) := by decide +kernel
theorem dX11_areAlike_37 : decode cX11_areAlike 37 = .ok (.ireturn, 1) := by decide +kernel
theorem dX11_nothingOf_0 : decode cX11_nothingOf 0 = .ok (.aload_n 0, 1) := by decide +kernel
theorem dX11_nothingOf_1 : decode cX11_nothingOf 1 = .ok (.iconst 0, 1) := by decide +kernel
theorem dX11_nothingOf_2 : decode cX11_nothingOf 2 = .ok (.putfield 133, 3) := by decide +kernel
theorem dX11_nothingOf_5 : decode cX11_nothingOf 5 = .ok (.iconst 0, 1) := by decide +kernel
theorem dX11_nothingOf_6 : decode cX11_nothingOf 6 = .ok (.istore_n 3, 1) := by decide +kernel
theorem dX11_nothingOf_7 : decode cX11_nothingOf 7 = .ok (.iload_n 3, 1) := by decide +kernel
theorem dX11_nothingOf_8 : decode cX11_nothingOf 8 = .ok (.aload_n 0, 1) := by decide +kernel
theorem dX11_nothingOf_9 : decode cX11_nothingOf 9 = .ok (.getfield 7, 3) := by decide +kernel
theorem dX11_nothingOf_12 : decode cX11_nothingOf 12 = .ok (.bipush 14, 2) := by decide +kernel
theorem dX11_nothingOf_14 : decode cX11_nothingOf 14 = .ok (.iload_n 1, 1) := by decide +kernel
theorem dX11_nothingOf_15 : decode cX11_nothingOf 15 = .ok (.imul, 1) := by decide +kernel
theorem dX11_nothingOf_16 : decode cX11_nothingOf 16 = .ok (.iconst 1, 1) := by decide +kernel
theorem dX11_nothingOf_17 : decode cX11_nothingOf 17 = .ok (.iadd, 1) := by decide +kernel
theorem dX11_nothingOf_18 : decode cX11_nothingOf 18 = .ok (.iaload, 1) := by decide +kernel
theorem dX11_nothingOf_19 : decode cX11_nothingOf 19 = .ok (.if_icmp .ge 65, 3) := by decide +kernel
theorem dX11_nothingOf_22 : decode cX11_nothingOf 22 = .ok (.iconst 0, 1) := by decide +kernel
theorem dX11_nothingOf_23 : decode cX11_nothingOf 23 = .ok (.istore 4, 2) := by decide +kernel
theorem dX11_nothingOf_25 : decode cX11_nothingOf 25 = .ok (.iload 4, 2) := by decide +kernel
theorem dX11_nothingOf_27 : decode cX11_nothingOf 27 = .ok (.iconst 3, 1) := by decide +kernel
theorem dX11_nothingOf_28 : decode cX11_nothingOf 28 = .ok (.if_icmp .ge 35, 3) := by decide +kernel
theorem dX11_nothingOf_31 : decode cX11_nothingOf 31 = .ok (.aload_n 0, 1) := by decide +kernel
theorem dX11_nothingOf_32 : decode cX11_nothingOf 32 = .ok (.getfield 38, 3) := by decide +kernel
theorem dX11_nothingOf_35 : decode cX11_nothingOf 35 = .ok (.iload 4, 2) := by decide +kernel
theorem dX11_nothingOf_37 : decode cX11_nothingOf 37 = .ok (.aload_n 0, 1) := by decide +kernel
theorem dX11_nothingOf_38 : decode cX11_nothingOf 38 = .ok (.getfield 7, 3) := by decide +kernel
theorem dX11_nothingOf_41 : decode cX11_nothingOf 41 = .ok (.bipush 14, 2) := by decide +kernel
theorem dX11_nothingOf_43 : decode cX11_nothingOf 43 = .ok (.iload_n 1, 1) := by decide +kernel
theorem dX11_nothingOf_44 : decode cX11_nothingOf 44 = .ok (.imul, 1) := by decide +kernel
theorem dX11_nothingOf_45 : decode cX11_nothingOf 45 = .ok (.iconst 2, 1) := by decide +kernel
theorem dX11_nothingOf_46 : decode cX11_nothingOf 46 = .ok (.iadd, 1) := by decide +kernel
theorem dX11_nothingOf_47 : decode cX11_nothingOf 47 = .ok (.iconst 3, 1) := by decide +kernel
theorem dX11_nothingOf_48 : decode cX11_nothingOf 48 = .ok (.iload_n 3, 1) := by decide +kernel
theorem dX11_nothingOf_49 : decode cX11_nothingOf 49 = .ok (.imul, 1) := by decide +kernel
theorem dX11_nothingOf_50 : decode cX11_nothingOf 50 = .ok (.iadd, 1) := by decide +kernel
theorem dX11_nothingOf_51 : decode cX11_nothingOf 51 = .ok (.iload 4, 2) := by decide +kernel
theorem dX11_nothingOf_53 : decode cX11_nothingOf 53 = .ok (.iadd, 1) := by decide +kernel
theorem dX11_nothingOf_54 : decode cX11_nothingOf 54 = .ok (.iaload, 1) := by decide +kernel
theorem dX11_nothingOf_55 : decode cX11_nothingOf 55 = .ok (.i2l, 1) := by decide +kernel
theorem dX11_nothingOf_56 : decode cX11_nothingOf 56 = .ok (.lastore, 1) := by decide +kernel
theorem dX11_nothingOf_57 : decode cX11_nothingOf 57 = .ok (.iinc 4 1, 3) := by decide +kernel
theorem dX11_nothingOf_60 : decode cX11_nothingOf 60 = .ok (.goto (-35), 3) := by decide +kernel
theorem dX11_nothingOf_63 : decode cX11_nothingOf 63 = .ok (.aload_n 0, 1) := by decide +kernel
theorem dX11_nothingOf_64 : decode cX11_nothingOf 64 = .ok (.aload_n 0, 1) := by decide +kernel
theorem dX11_nothingOf_65 : decode cX11_nothingOf 65 = .ok (.getfield 38, 3) := by decide +kernel
theorem dX11_nothingOf_68 : decode cX11_nothingOf 68 = .ok (.iconst 0, 1) := by decide +kernel
theorem dX11_nothingOf_69 : decode cX11_nothingOf 69 = .ok (.iconst 0, 1) := by decide +kernel
theorem dX11_nothingOf_70 : decode cX11_nothingOf 70 = .ok (.aload_n 0, 1) := by decide +kernel
theorem dX11_nothingOf_71 : decode cX11_nothingOf 71 = .ok (.iload_n 1, 1) := by decide +kernel
theorem dX11_nothingOf_72 : decode cX11_nothingOf 72 = .ok (.invokevirtual 162, 3) := by decide +kernel
theorem dX11_nothingOf_75 : decode cX11_nothingOf 75 = .ok (.invokevirtual 166, 3) := by decide +kernel
theorem dX11_nothingOf_78 : decode cX11_nothingOf 78 = .ok (.iinc 3 1, 3) := by decide +kernel
theorem dX11_nothingOf_81 : decode cX11_nothingOf 81 = .ok (.goto (-74), 3) := by decide +kernel
theorem dX11_nothingOf_84 : decode cX11_nothingOf 84 = .ok (.aload_n 0, 1) := by decide +kernel
theorem dX11_nothingOf_85 : decode cX11_nothingOf 85 = .ok (.aload_n 0, 1) := by decide +kernel
theorem dX11_nothingOf_86 : decode cX11_nothingOf 86 = .ok (.iload_n 1, 1) := by decide +kernel
theorem dX11_nothingOf_87 : decode cX11_nothingOf 87 = .ok (.invokevirtual 162, 3) := by decide +kernel
theorem dX11_nothingOf_90 : decode cX11_nothingOf 90 = .ok (.aload_n 2, 1) := by decide +kernel
theorem dX11_nothingOf_91 : decode cX11_nothingOf 91 = .ok (.invokevirtual 170, 3) := by decide +kernel
theorem dX11_nothingOf_94 : decode cX11_nothingOf 94 = .ok (.return_, 1) := by decide +kernel
theorem dX11_sets_0 : decode cX11_sets 0 = .ok (.iconst 0, 1) := by decide +kernel
theorem dX11_sets_1 : decode cX11_sets 1 = .ok (.istore 9, 2) := by decide +kernel
theorem dX11_sets_3 : decode cX11_sets 3 = .ok (.iload 9, 2) := by decide +kernel
theorem dX11_sets_5 : decode cX11_sets 5 = .ok (.bipush 6, 2) := by decide +kernel
theorem dX11_sets_7 : decode cX11_sets 7 = .ok (.if_icmp .ge 14, 3) := by decide +kernel
theorem dX11_sets_10 : decode cX11_sets 10 = .ok (.aload_n 1, 1) := by decide +kernel
theorem dX11_sets_11 : decode cX11_sets 11 = .ok (.iload 9, 2) := by decide +kernel
theorem dX11_sets_13 : decode cX11_sets 13 = .ok (.lconst 0, 1) := by decide +kernel
theorem dX11_sets_14 : decode cX11_sets 14 = .ok (.lastore, 1) := by decide +kernel
theorem dX11_sets_15 : decode cX11_sets 15 = .ok (.iinc 9 1, 3) := by decide +kernel
theorem dX11_sets_18 : decode cX11_sets 18 = .ok (.goto (-15), 3) := by decide +kernel
theorem dX11_sets_21 : decode cX11_sets 21 = .ok (.aload_n 1, 1) := by decide +kernel
theorem dX11_sets_22 : decode cX11_sets 22 = .ok (.iconst 0, 1) := by decide +kernel
theorem dX11_sets_23 : decode cX11_sets 23 = .ok (.iload 8, 2) := by decide +kernel
theorem dX11_sets_25 : decode cX11_sets 25 = .ok (.ifCond .le 7, 3) := by decide +kernel
theorem dX11_sets_28 : decode cX11_sets 28 = .ok (.lload_n 2, 1) := by decide +kernel
theorem dX11_sets_29 : decode cX11_sets 29 = .ok (.goto 4, 3) := by decide +kernel
theorem dX11_sets_32 : decode cX11_sets 32 = .ok (.lconst 0, 1) := by decide +kernel
theorem dX11_sets_33 : decode cX11_sets 33 = .ok (.lastore, 1) := by decide +kernel
theorem dX11_sets_34 : decode cX11_sets 34 = .ok (.aload_n 1, 1) := by decide +kernel
theorem dX11_sets_35 : decode cX11_sets 35 = .ok (.iconst 1, 1) := by decide +kernel
theorem dX11_sets_36 : decode cX11_sets 36 = .ok (.iload 8, 2) := by decide +kernel
theorem dX11_sets_38 : decode cX11_sets 38 = .ok (.iconst 1, 1) := by decide +kernel
theorem dX11_sets_39 : decode cX11_sets 39 = .ok (.if_icmp .le 8, 3) := by decide +kernel
theorem dX11_sets_42 : decode cX11_sets 42 = .ok (.lload 4, 2) := by decide +kernel
theorem dX11_sets_44 : decode cX11_sets 44 = .ok (.goto 4, 3) := by decide +kernel
theorem dX11_sets_47 : decode cX11_sets 47 = .ok (.lconst 0, 1) := by decide +kernel
theorem dX11_sets_48 : decode cX11_sets 48 = .ok (.lastore, 1) := by decide +kernel
theorem dX11_sets_49 : decode cX11_sets 49 = .ok (.aload_n 1, 1) := by decide +kernel
theorem dX11_sets_50 : decode cX11_sets 50 = .ok (.iconst 2, 1) := by decide +kernel
theorem dX11_sets_51 : decode cX11_sets 51 = .ok (.iload 8, 2) := by decide +kernel
theorem dX11_sets_53 : decode cX11_sets 53 = .ok (.iconst 2, 1) := by decide +kernel
theorem dX11_sets_54 : decode cX11_sets 54 = .ok (.if_icmp .le 8, 3) := by decide +kernel
theorem dX11_sets_57 : decode cX11_sets 57 = .ok (.lload 6, 2) := by decide +kernel
theorem dX11_sets_59 : decode cX11_sets 59 = .ok (.goto 4, 3) := by decide +kernel
theorem dX11_sets_62 : decode cX11_sets 62 = .ok (.lconst 0, 1) := by decide +kernel
theorem dX11_sets_63 : decode cX11_sets 63 = .ok (.lastore, 1) := by decide +kernel
theorem dX11_sets_64 : decode cX11_sets 64 = .ok (.return_, 1) := by decide +kernel
theorem dX11_images_0 : decode cX11_images 0 = .ok (.lconst 0, 1) := by decide +kernel
theorem dX11_images_1 : decode cX11_images 1 = .ok (.lstore 4, 2) := by decide +kernel
theorem dX11_images_3 : decode cX11_images 3 = .ok (.lconst 0, 1) := by decide +kernel
theorem dX11_images_4 : decode cX11_images 4 = .ok (.lstore 6, 2) := by decide +kernel
theorem dX11_images_6 : decode cX11_images 6 = .ok (.lconst 0, 1) := by decide +kernel
theorem dX11_images_7 : decode cX11_images 7 = .ok (.lstore 8, 2) := by decide +kernel
theorem dX11_images_9 : decode cX11_images 9 = .ok (.iconst 0, 1) := by decide +kernel
theorem dX11_images_10 : decode cX11_images 10 = .ok (.istore 10, 2) := by decide +kernel
theorem dX11_images_12 : decode cX11_images 12 = .ok (.iload 10, 2) := by decide +kernel
theorem dX11_images_14 : decode cX11_images 14 = .ok (.aload_n 0, 1) := by decide +kernel
theorem dX11_images_15 : decode cX11_images 15 = .ok (.aload_n 0, 1) := by decide +kernel
theorem dX11_images_16 : decode cX11_images 16 = .ok (.iload_n 1, 1) := by decide +kernel
theorem dX11_images_17 : decode cX11_images 17 = .ok (.invokevirtual 174, 3) := by decide +kernel
theorem dX11_images_20 : decode cX11_images 20 = .ok (.invokevirtual 162, 3) := by decide +kernel
theorem dX11_images_23 : decode cX11_images 23 = .ok (.if_icmp .ge 66, 3) := by decide +kernel
theorem dX11_images_26 : decode cX11_images 26 = .ok (.lload 4, 2) := by decide +kernel
theorem dX11_images_28 : decode cX11_images 28 = .ok (.aload_n 2, 1) := by decide +kernel
theorem dX11_images_29 : decode cX11_images 29 = .ok (.iload 10, 2) := by decide +kernel
theorem dX11_images_31 : decode cX11_images 31 = .ok (.laload, 1) := by decide +kernel
theorem dX11_images_32 : decode cX11_images 32 = .ok (.aload_n 0, 1) := by decide +kernel
theorem dX11_images_33 : decode cX11_images 33 = .ok (.iload_n 1, 1) := by decide +kernel
theorem dX11_images_34 : decode cX11_images 34 = .ok (.iload 10, 2) := by decide +kernel
theorem dX11_images_36 : decode cX11_images 36 = .ok (.iconst 0, 1) := by decide +kernel
theorem dX11_images_37 : decode cX11_images 37 = .ok (.invokevirtual 177, 3) := by decide +kernel
theorem dX11_images_40 : decode cX11_images 40 = .ok (.i2l, 1) := by decide +kernel
theorem dX11_images_41 : decode cX11_images 41 = .ok (.lmul, 1) := by decide +kernel
theorem dX11_images_42 : decode cX11_images 42 = .ok (.ladd, 1) := by decide +kernel
theorem dX11_images_43 : decode cX11_images 43 = .ok (.lstore 4, 2) := by decide +kernel
theorem dX11_images_45 : decode cX11_images 45 = .ok (.lload 6, 2) := by decide +kernel
theorem dX11_images_47 : decode cX11_images 47 = .ok (.aload_n 2, 1) := by decide +kernel
theorem dX11_images_48 : decode cX11_images 48 = .ok (.iload 10, 2) := by decide +kernel
theorem dX11_images_50 : decode cX11_images 50 = .ok (.laload, 1) := by decide +kernel
theorem dX11_images_51 : decode cX11_images 51 = .ok (.aload_n 0, 1) := by decide +kernel
theorem dX11_images_52 : decode cX11_images 52 = .ok (.iload_n 1, 1) := by decide +kernel
theorem dX11_images_53 : decode cX11_images 53 = .ok (.iload 10, 2) := by decide +kernel
theorem dX11_images_55 : decode cX11_images 55 = .ok (.iconst 1, 1) := by decide +kernel
theorem dX11_images_56 : decode cX11_images 56 = .ok (.invokevirtual 177, 3) := by decide +kernel
theorem dX11_images_59 : decode cX11_images 59 = .ok (.i2l, 1) := by decide +kernel
theorem dX11_images_60 : decode cX11_images 60 = .ok (.lmul, 1) := by decide +kernel
theorem dX11_images_61 : decode cX11_images 61 = .ok (.ladd, 1) := by decide +kernel
theorem dX11_images_62 : decode cX11_images 62 = .ok (.lstore 6, 2) := by decide +kernel
theorem dX11_images_64 : decode cX11_images 64 = .ok (.lload 8, 2) := by decide +kernel
theorem dX11_images_66 : decode cX11_images 66 = .ok (.aload_n 2, 1) := by decide +kernel
theorem dX11_images_67 : decode cX11_images 67 = .ok (.iload 10, 2) := by decide +kernel
theorem dX11_images_69 : decode cX11_images 69 = .ok (.laload, 1) := by decide +kernel
theorem dX11_images_70 : decode cX11_images 70 = .ok (.aload_n 0, 1) := by decide +kernel
theorem dX11_images_71 : decode cX11_images 71 = .ok (.iload_n 1, 1) := by decide +kernel
theorem dX11_images_72 : decode cX11_images 72 = .ok (.iload 10, 2) := by decide +kernel
theorem dX11_images_74 : decode cX11_images 74 = .ok (.iconst 2, 1) := by decide +kernel
theorem dX11_images_75 : decode cX11_images 75 = .ok (.invokevirtual 177, 3) := by decide +kernel
theorem dX11_images_78 : decode cX11_images 78 = .ok (.i2l, 1) := by decide +kernel
theorem dX11_images_79 : decode cX11_images 79 = .ok (.lmul, 1) := by decide +kernel
theorem dX11_images_80 : decode cX11_images 80 = .ok (.ladd, 1) := by decide +kernel
theorem dX11_images_81 : decode cX11_images 81 = .ok (.lstore 8, 2) := by decide +kernel
theorem dX11_images_83 : decode cX11_images 83 = .ok (.iinc 10 1, 3) := by decide +kernel
theorem dX11_images_86 : decode cX11_images 86 = .ok (.goto (-74), 3) := by decide +kernel
theorem dX11_images_89 : decode cX11_images 89 = .ok (.aload_n 0, 1) := by decide +kernel
theorem dX11_images_90 : decode cX11_images 90 = .ok (.aload_n 3, 1) := by decide +kernel
theorem dX11_images_91 : decode cX11_images 91 = .ok (.lload 4, 2) := by decide +kernel
theorem dX11_images_93 : decode cX11_images 93 = .ok (.lload 6, 2) := by decide +kernel
theorem dX11_images_95 : decode cX11_images 95 = .ok (.lload 8, 2) := by decide +kernel
theorem dX11_images_97 : decode cX11_images 97 = .ok (.aload_n 0, 1) := by decide +kernel
theorem dX11_images_98 : decode cX11_images 98 = .ok (.aload_n 0, 1) := by decide +kernel
theorem dX11_images_99 : decode cX11_images 99 = .ok (.iload_n 1, 1) := by decide +kernel
theorem dX11_images_100 : decode cX11_images 100 = .ok (.invokevirtual 181, 3) := by decide +kernel
theorem dX11_images_103 : decode cX11_images 103 = .ok (.invokevirtual 162, 3) := by decide +kernel
theorem dX11_images_106 : decode cX11_images 106 = .ok (.invokevirtual 184, 3) := by decide +kernel
theorem dX11_images_109 : decode cX11_images 109 = .ok (.return_, 1) := by decide +kernel
theorem dX11_isWell_0 : decode cX11_isWell 0 = .ok (.aload_n 0, 1) := by decide +kernel
theorem dX11_isWell_1 : decode cX11_isWell 1 = .ok (.aload_n 0, 1) := by decide +kernel
theorem dX11_isWell_2 : decode cX11_isWell 2 = .ok (.iload_n 1, 1) := by decide +kernel
theorem dX11_isWell_3 : decode cX11_isWell 3 = .ok (.invokevirtual 181, 3) := by decide +kernel
theorem dX11_isWell_6 : decode cX11_isWell 6 = .ok (.aload_n 0, 1) := by decide +kernel
theorem dX11_isWell_7 : decode cX11_isWell 7 = .ok (.getfield 35, 3) := by decide +kernel
theorem dX11_isWell_10 : decode cX11_isWell 10 = .ok (.invokevirtual 188, 3) := by decide +kernel
theorem dX11_isWell_13 : decode cX11_isWell 13 = .ok (.iconst 0, 1) := by decide +kernel
theorem dX11_isWell_14 : decode cX11_isWell 14 = .ok (.istore_n 2, 1) := by decide +kernel
theorem dX11_isWell_15 : decode cX11_isWell 15 = .ok (.iload_n 2, 1) := by decide +kernel
theorem dX11_isWell_16 : decode cX11_isWell 16 = .ok (.aload_n 0, 1) := by decide +kernel
theorem dX11_isWell_17 : decode cX11_isWell 17 = .ok (.getfield 7, 3) := by decide +kernel
theorem dX11_isWell_20 : decode cX11_isWell 20 = .ok (.bipush 14, 2) := by decide +kernel
theorem dX11_isWell_22 : decode cX11_isWell 22 = .ok (.aload_n 0, 1) := by decide +kernel
theorem dX11_isWell_23 : decode cX11_isWell 23 = .ok (.iload_n 1, 1) := by decide +kernel
theorem dX11_isWell_24 : decode cX11_isWell 24 = .ok (.invokevirtual 174, 3) := by decide +kernel
theorem dX11_isWell_27 : decode cX11_isWell 27 = .ok (.imul, 1) := by decide +kernel
theorem dX11_isWell_28 : decode cX11_isWell 28 = .ok (.iconst 1, 1) := by decide +kernel
theorem dX11_isWell_29 : decode cX11_isWell 29 = .ok (.iadd, 1) := by decide +kernel
theorem dX11_isWell_30 : decode cX11_isWell 30 = .ok (.iaload, 1) := by decide +kernel
theorem dX11_isWell_31 : decode cX11_isWell 31 = .ok (.if_icmp .ge 114, 3) := by decide +kernel
theorem dX11_isWell_34 : decode cX11_isWell 34 = .ok (.bipush 14, 2) := by decide +kernel
theorem dX11_isWell_36 : decode cX11_isWell 36 = .ok (.aload_n 0, 1) := by decide +kernel
theorem dX11_isWell_37 : decode cX11_isWell 37 = .ok (.iload_n 1, 1) := by decide +kernel
theorem dX11_isWell_38 : decode cX11_isWell 38 = .ok (.invokevirtual 174, 3) := by decide +kernel
theorem dX11_isWell_41 : decode cX11_isWell 41 = .ok (.imul, 1) := by decide +kernel
theorem dX11_isWell_42 : decode cX11_isWell 42 = .ok (.iconst 2, 1) := by decide +kernel
theorem dX11_isWell_43 : decode cX11_isWell 43 = .ok (.iadd, 1) := by decide +kernel
theorem dX11_isWell_44 : decode cX11_isWell 44 = .ok (.iconst 3, 1) := by decide +kernel
theorem dX11_isWell_45 : decode cX11_isWell 45 = .ok (.iload_n 2, 1) := by decide +kernel
theorem dX11_isWell_46 : decode cX11_isWell 46 = .ok (.imul, 1) := by decide +kernel
theorem dX11_isWell_47 : decode cX11_isWell 47 = .ok (.iadd, 1) := by decide +kernel
theorem dX11_isWell_48 : decode cX11_isWell 48 = .ok (.istore_n 3, 1) := by decide +kernel
theorem dX11_isWell_49 : decode cX11_isWell 49 = .ok (.aload_n 0, 1) := by decide +kernel
theorem dX11_isWell_50 : decode cX11_isWell 50 = .ok (.aload_n 0, 1) := by decide +kernel
theorem dX11_isWell_51 : decode cX11_isWell 51 = .ok (.getfield 41, 3) := by decide +kernel
theorem dX11_isWell_54 : decode cX11_isWell 54 = .ok (.aload_n 0, 1) := by decide +kernel
theorem dX11_isWell_55 : decode cX11_isWell 55 = .ok (.getfield 7, 3) := by decide +kernel
theorem dX11_isWell_58 : decode cX11_isWell 58 = .ok (.iload_n 3, 1) := by decide +kernel
theorem dX11_isWell_59 : decode cX11_isWell 59 = .ok (.iaload, 1) := by decide +kernel
theorem dX11_isWell_60 : decode cX11_isWell 60 = .ok (.i2l, 1) := by decide +kernel
theorem dX11_isWell_61 : decode cX11_isWell 61 = .ok (.aload_n 0, 1) := by decide +kernel
theorem dX11_isWell_62 : decode cX11_isWell 62 = .ok (.getfield 7, 3) := by decide +kernel
theorem dX11_isWell_65 : decode cX11_isWell 65 = .ok (.iload_n 3, 1) := by decide +kernel
theorem dX11_isWell_66 : decode cX11_isWell 66 = .ok (.iconst 1, 1) := by decide +kernel
theorem dX11_isWell_67 : decode cX11_isWell 67 = .ok (.iadd, 1) := by decide +kernel
theorem dX11_isWell_68 : decode cX11_isWell 68 = .ok (.iaload, 1) := by decide +kernel
theorem dX11_isWell_69 : decode cX11_isWell 69 = .ok (.i2l, 1) := by decide +kernel
theorem dX11_isWell_70 : decode cX11_isWell 70 = .ok (.aload_n 0, 1) := by decide +kernel
theorem dX11_isWell_71 : decode cX11_isWell 71 = .ok (.getfield 7, 3) := by decide +kernel
theorem dX11_isWell_74 : decode cX11_isWell 74 = .ok (.iload_n 3, 1) := by decide +kernel
theorem dX11_isWell_75 : decode cX11_isWell 75 = .ok (.iconst 2, 1) := by decide +kernel
theorem dX11_isWell_76 : decode cX11_isWell 76 = .ok (.iadd, 1) := by decide +kernel
theorem dX11_isWell_77 : decode cX11_isWell 77 = .ok (.iaload, 1) := by decide +kernel
theorem dX11_isWell_78 : decode cX11_isWell 78 = .ok (.i2l, 1) := by decide +kernel
theorem dX11_isWell_79 : decode cX11_isWell 79 = .ok (.aload_n 0, 1) := by decide +kernel
theorem dX11_isWell_80 : decode cX11_isWell 80 = .ok (.aload_n 0, 1) := by decide +kernel
theorem dX11_isWell_81 : decode cX11_isWell 81 = .ok (.iload_n 1, 1) := by decide +kernel
theorem dX11_isWell_82 : decode cX11_isWell 82 = .ok (.invokevirtual 174, 3) := by decide +kernel
theorem dX11_isWell_85 : decode cX11_isWell 85 = .ok (.invokevirtual 162, 3) := by decide +kernel
theorem dX11_isWell_88 : decode cX11_isWell 88 = .ok (.invokevirtual 184, 3) := by decide +kernel
theorem dX11_isWell_91 : decode cX11_isWell 91 = .ok (.aload_n 0, 1) := by decide +kernel
theorem dX11_isWell_92 : decode cX11_isWell 92 = .ok (.iload_n 1, 1) := by decide +kernel
theorem dX11_isWell_93 : decode cX11_isWell 93 = .ok (.aload_n 0, 1) := by decide +kernel
theorem dX11_isWell_94 : decode cX11_isWell 94 = .ok (.getfield 41, 3) := by decide +kernel
theorem dX11_isWell_97 : decode cX11_isWell 97 = .ok (.aload_n 0, 1) := by decide +kernel
theorem dX11_isWell_98 : decode cX11_isWell 98 = .ok (.getfield 38, 3) := by decide +kernel
theorem dX11_isWell_101 : decode cX11_isWell 101 = .ok (.invokevirtual 191, 3) := by decide +kernel
theorem dX11_isWell_104 : decode cX11_isWell 104 = .ok (.aload_n 0, 1) := by decide +kernel
theorem dX11_isWell_105 : decode cX11_isWell 105 = .ok (.getfield 38, 3) := by decide +kernel
theorem dX11_isWell_108 : decode cX11_isWell 108 = .ok (.aload_n 0, 1) := by decide +kernel
theorem dX11_isWell_109 : decode cX11_isWell 109 = .ok (.getfield 35, 3) := by decide +kernel
theorem dX11_isWell_112 : decode cX11_isWell 112 = .ok (.iconst 0, 1) := by decide +kernel
theorem dX11_isWell_113 : decode cX11_isWell 113 = .ok (.aload_n 0, 1) := by decide +kernel
theorem dX11_isWell_114 : decode cX11_isWell 114 = .ok (.aload_n 0, 1) := by decide +kernel
theorem dX11_isWell_115 : decode cX11_isWell 115 = .ok (.iload_n 1, 1) := by decide +kernel
theorem dX11_isWell_116 : decode cX11_isWell 116 = .ok (.invokevirtual 181, 3) := by decide +kernel
theorem dX11_isWell_119 : decode cX11_isWell 119 = .ok (.invokevirtual 162, 3) := by decide +kernel
theorem dX11_isWell_122 : decode cX11_isWell 122 = .ok (.invokestatic 195, 3) := by decide +kernel
theorem dX11_isWell_125 : decode cX11_isWell 125 = .ok (.aload_n 0, 1) := by decide +kernel
theorem dX11_isWell_126 : decode cX11_isWell 126 = .ok (.getfield 38, 3) := by decide +kernel
theorem dX11_isWell_129 : decode cX11_isWell 129 = .ok (.iconst 0, 1) := by decide +kernel
theorem dX11_isWell_130 : decode cX11_isWell 130 = .ok (.iconst 3, 1) := by decide +kernel
theorem dX11_isWell_131 : decode cX11_isWell 131 = .ok (.invokestatic 199, 3) := by decide +kernel
theorem dX11_isWell_134 : decode cX11_isWell 134 = .ok (.ifCond .ne 5, 3) := by decide +kernel
theorem dX11_isWell_137 : decode cX11_isWell 137 = .ok (.iconst 0, 1) := by decide +kernel
theorem dX11_isWell_138 : decode cX11_isWell 138 = .ok (.ireturn, 1) := by decide +kernel
theorem dX11_isWell_139 : decode cX11_isWell 139 = .ok (.iinc 2 1, 3) := by decide +kernel
theorem dX11_isWell_142 : decode cX11_isWell 142 = .ok (.goto (-127), 3) := by decide +kernel
theorem dX11_isWell_145 : decode cX11_isWell 145 = .ok (.iconst 1, 1) := by decide +kernel
theorem dX11_isWell_146 : decode cX11_isWell 146 = .ok (.ireturn, 1) := by decide +kernel
theorem dX11_maps_0 : decode cX11_maps 0 = .ok (.aload_n 0, 1) := by decide +kernel
theorem dX11_maps_1 : decode cX11_maps 1 = .ok (.aload_n 0, 1) := by decide +kernel
theorem dX11_maps_2 : decode cX11_maps 2 = .ok (.iload_n 1, 1) := by decide +kernel
theorem dX11_maps_3 : decode cX11_maps 3 = .ok (.invokevirtual 181, 3) := by decide +kernel
theorem dX11_maps_6 : decode cX11_maps 6 = .ok (.invokevirtual 162, 3) := by decide +kernel
theorem dX11_maps_9 : decode cX11_maps 9 = .ok (.istore_n 2, 1) := by decide +kernel
theorem dX11_maps_10 : decode cX11_maps 10 = .ok (.aload_n 0, 1) := by decide +kernel
theorem dX11_maps_11 : decode cX11_maps 11 = .ok (.aload_n 0, 1) := by decide +kernel
theorem dX11_maps_12 : decode cX11_maps 12 = .ok (.iload_n 1, 1) := by decide +kernel
theorem dX11_maps_13 : decode cX11_maps 13 = .ok (.invokevirtual 174, 3) := by decide +kernel
theorem dX11_maps_16 : decode cX11_maps 16 = .ok (.invokevirtual 162, 3) := by decide +kernel
theorem dX11_maps_19 : decode cX11_maps 19 = .ok (.istore_n 3, 1) := by decide +kernel
theorem dX11_maps_20 : decode cX11_maps 20 = .ok (.aload_n 0, 1) := by decide +kernel
theorem dX11_maps_21 : decode cX11_maps 21 = .ok (.aload_n 0, 1) := by decide +kernel
theorem dX11_maps_22 : decode cX11_maps 22 = .ok (.iload_n 1, 1) := by decide +kernel
theorem dX11_maps_23 : decode cX11_maps 23 = .ok (.invokevirtual 181, 3) := by decide +kernel
theorem dX11_maps_26 : decode cX11_maps 26 = .ok (.aload_n 0, 1) := by decide +kernel
theorem dX11_maps_27 : decode cX11_maps 27 = .ok (.getfield 35, 3) := by decide +kernel
theorem dX11_maps_30 : decode cX11_maps 30 = .ok (.invokevirtual 188, 3) := by decide +kernel
theorem dX11_maps_33 : decode cX11_maps 33 = .ok (.aload_n 0, 1) := by decide +kernel
theorem dX11_maps_34 : decode cX11_maps 34 = .ok (.iconst 0, 1) := by decide +kernel
theorem dX11_maps_35 : decode cX11_maps 35 = .ok (.putfield 133, 3) := by decide +kernel
theorem dX11_maps_38 : decode cX11_maps 38 = .ok (.iconst 0, 1) := by decide +kernel
theorem dX11_maps_39 : decode cX11_maps 39 = .ok (.istore 4, 2) := by decide +kernel
theorem dX11_maps_41 : decode cX11_maps 41 = .ok (.iload 4, 2) := by decide +kernel
theorem dX11_maps_43 : decode cX11_maps 43 = .ok (.iload_n 2, 1) := by decide +kernel
theorem dX11_maps_44 : decode cX11_maps 44 = .ok (.if_icmp .ge 24, 3) := by decide +kernel
theorem dX11_maps_47 : decode cX11_maps 47 = .ok (.aload_n 0, 1) := by decide +kernel
theorem dX11_maps_48 : decode cX11_maps 48 = .ok (.aload_n 0, 1) := by decide +kernel
theorem dX11_maps_49 : decode cX11_maps 49 = .ok (.getfield 35, 3) := by decide +kernel
theorem dX11_maps_52 : decode cX11_maps 52 = .ok (.bipush 6, 2) := by decide +kernel
theorem dX11_maps_54 : decode cX11_maps 54 = .ok (.iload 4, 2) := by decide +kernel
theorem dX11_maps_56 : decode cX11_maps 56 = .ok (.imul, 1) := by decide +kernel
theorem dX11_maps_57 : decode cX11_maps 57 = .ok (.iconst 0, 1) := by decide +kernel
theorem dX11_maps_58 : decode cX11_maps 58 = .ok (.iload_n 2, 1) := by decide +kernel
theorem dX11_maps_59 : decode cX11_maps 59 = .ok (.invokevirtual 166, 3) := by decide +kernel
theorem dX11_maps_62 : decode cX11_maps 62 = .ok (.iinc 4 1, 3) := by decide +kernel
theorem dX11_maps_65 : decode cX11_maps 65 = .ok (.goto (-24), 3) := by decide +kernel
theorem dX11_maps_68 : decode cX11_maps 68 = .ok (.iconst 0, 1) := by decide +kernel
theorem dX11_maps_69 : decode cX11_maps 69 = .ok (.istore 4, 2) := by decide +kernel
theorem dX11_maps_71 : decode cX11_maps 71 = .ok (.iload 4, 2) := by decide +kernel
theorem dX11_maps_73 : decode cX11_maps 73 = .ok (.iload_n 3, 1) := by decide +kernel
theorem dX11_maps_74 : decode cX11_maps 74 = .ok (.if_icmp .ge 78, 3) := by decide +kernel
theorem dX11_maps_77 : decode cX11_maps 77 = .ok (.iconst 0, 1) := by decide +kernel
theorem dX11_maps_78 : decode cX11_maps 78 = .ok (.istore 5, 2) := by decide +kernel
theorem dX11_maps_80 : decode cX11_maps 80 = .ok (.iload 5, 2) := by decide +kernel
