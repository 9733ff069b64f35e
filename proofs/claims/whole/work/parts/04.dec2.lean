theorem dX5_init_0 : decode cX5_init 0 = .ok (.aload_n 0, 1) := by decide +kernel
theorem dX5_init_1 : decode cX5_init 1 = .ok (.invokespecial 1, 3) := by decide +kernel
theorem dX5_init_4 : decode cX5_init 4 = .ok (.aload_n 0, 1) := by decide +kernel
theorem dX5_init_5 : decode cX5_init 5 = .ok (.bipush 100, 2) := by decide +kernel
theorem dX5_init_7 : decode cX5_init 7 = .ok (.newarray .int, 2) := by decide +kernel
theorem dX5_init_9 : decode cX5_init 9 = .ok (.putfield 9, 3) := by decide +kernel
theorem dX5_init_12 : decode cX5_init 12 = .ok (.aload_n 0, 1) := by decide +kernel
theorem dX5_init_13 : decode cX5_init 13 = .ok (.bipush 100, 2) := by decide +kernel
theorem dX5_init_15 : decode cX5_init 15 = .ok (.newarray .int, 2) := by decide +kernel
theorem dX5_init_17 : decode cX5_init 17 = .ok (.putfield 13, 3) := by decide +kernel
theorem dX5_init_20 : decode cX5_init 20 = .ok (.aload_n 0, 1) := by decide +kernel
theorem dX5_init_21 : decode cX5_init 21 = .ok (.bipush 100, 2) := by decide +kernel
theorem dX5_init_23 : decode cX5_init 23 = .ok (.newarray .long, 2) := by decide +kernel
theorem dX5_init_25 : decode cX5_init 25 = .ok (.putfield 16, 3) := by decide +kernel
theorem dX5_init_28 : decode cX5_init 28 = .ok (.aload_n 0, 1) := by decide +kernel
theorem dX5_init_29 : decode cX5_init 29 = .ok (.bipush 100, 2) := by decide +kernel
theorem dX5_init_31 : decode cX5_init 31 = .ok (.newarray .long, 2) := by decide +kernel
theorem dX5_init_33 : decode cX5_init 33 = .ok (.putfield 20, 3) := by decide +kernel
theorem dX5_init_36 : decode cX5_init 36 = .ok (.aload_n 0, 1) := by decide +kernel
theorem dX5_init_37 : decode cX5_init 37 = .ok (.bipush 16, 2) := by decide +kernel
theorem dX5_init_39 : decode cX5_init 39 = .ok (.newarray .int, 2) := by decide +kernel
theorem dX5_init_41 : decode cX5_init 41 = .ok (.putfield 23, 3) := by decide +kernel
theorem dX5_init_44 : decode cX5_init 44 = .ok (.aload_n 0, 1) := by decide +kernel
theorem dX5_init_45 : decode cX5_init 45 = .ok (.bipush 16, 2) := by decide +kernel
theorem dX5_init_47 : decode cX5_init 47 = .ok (.newarray .int, 2) := by decide +kernel
theorem dX5_init_49 : decode cX5_init 49 = .ok (.putfield 26, 3) := by decide +kernel
theorem dX5_init_52 : decode cX5_init 52 = .ok (.aload_n 0, 1) := by decide +kernel
theorem dX5_init_53 : decode cX5_init 53 = .ok (.sipush 128, 3) := by decide +kernel
theorem dX5_init_56 : decode cX5_init 56 = .ok (.newarray .int, 2) := by decide +kernel
theorem dX5_init_58 : decode cX5_init 58 = .ok (.putfield 29, 3) := by decide +kernel
theorem dX5_init_61 : decode cX5_init 61 = .ok (.aload_n 0, 1) := by decide +kernel
theorem dX5_init_62 : decode cX5_init 62 = .ok (.sipush 16000, 3) := by decide +kernel
theorem dX5_init_65 : decode cX5_init 65 = .ok (.newarray .int, 2) := by decide +kernel
theorem dX5_init_67 : decode cX5_init 67 = .ok (.putfield 32, 3) := by decide +kernel
theorem dX5_init_70 : decode cX5_init 70 = .ok (.aload_n 0, 1) := by decide +kernel
theorem dX5_init_71 : decode cX5_init 71 = .ok (.bipush 16, 2) := by decide +kernel
theorem dX5_init_73 : decode cX5_init 73 = .ok (.newarray .int, 2) := by decide +kernel
theorem dX5_init_75 : decode cX5_init 75 = .ok (.putfield 35, 3) := by decide +kernel
theorem dX5_init_78 : decode cX5_init 78 = .ok (.aload_n 0, 1) := by decide +kernel
theorem dX5_init_79 : decode cX5_init 79 = .ok (.sipush 3200, 3) := by decide +kernel
theorem dX5_init_82 : decode cX5_init 82 = .ok (.newarray .int, 2) := by decide +kernel
theorem dX5_init_84 : decode cX5_init 84 = .ok (.putfield 38, 3) := by decide +kernel
theorem dX5_init_87 : decode cX5_init 87 = .ok (.aload_n 0, 1) := by decide +kernel
theorem dX5_init_88 : decode cX5_init 88 = .ok (.bipush 16, 2) := by decide +kernel
theorem dX5_init_90 : decode cX5_init 90 = .ok (.newarray .int, 2) := by decide +kernel
theorem dX5_init_92 : decode cX5_init 92 = .ok (.putfield 41, 3) := by decide +kernel
theorem dX5_init_95 : decode cX5_init 95 = .ok (.aload_n 0, 1) := by decide +kernel
theorem dX5_init_96 : decode cX5_init 96 = .ok (.sipush 160, 3) := by decide +kernel
theorem dX5_init_99 : decode cX5_init 99 = .ok (.newarray .int, 2) := by decide +kernel
theorem dX5_init_101 : decode cX5_init 101 = .ok (.putfield 44, 3) := by decide +kernel
theorem dX5_init_104 : decode cX5_init 104 = .ok (.aload_n 0, 1) := by decide +kernel
theorem dX5_init_105 : decode cX5_init 105 = .ok (.sipush 400, 3) := by decide +kernel
theorem dX5_init_108 : decode cX5_init 108 = .ok (.newarray .int, 2) := by decide +kernel
theorem dX5_init_110 : decode cX5_init 110 = .ok (.putfield 47, 3) := by decide +kernel
theorem dX5_init_113 : decode cX5_init 113 = .ok (.aload_n 0, 1) := by decide +kernel
theorem dX5_init_114 : decode cX5_init 114 = .ok (.sipush 400, 3) := by decide +kernel
theorem dX5_init_117 : decode cX5_init 117 = .ok (.newarray .int, 2) := by decide +kernel
theorem dX5_init_119 : decode cX5_init 119 = .ok (.putfield 50, 3) := by decide +kernel
theorem dX5_init_122 : decode cX5_init 122 = .ok (.aload_n 0, 1) := by decide +kernel
theorem dX5_init_123 : decode cX5_init 123 = .ok (.sipush 400, 3) := by decide +kernel
theorem dX5_init_126 : decode cX5_init 126 = .ok (.newarray .int, 2) := by decide +kernel
theorem dX5_init_128 : decode cX5_init 128 = .ok (.putfield 53, 3) := by decide +kernel
theorem dX5_init_131 : decode cX5_init 131 = .ok (.aload_n 0, 1) := by decide +kernel
theorem dX5_init_132 : decode cX5_init 132 = .ok (.sipush 3200, 3) := by decide +kernel
theorem dX5_init_135 : decode cX5_init 135 = .ok (.newarray .int, 2) := by decide +kernel
theorem dX5_init_137 : decode cX5_init 137 = .ok (.putfield 56, 3) := by decide +kernel
theorem dX5_init_140 : decode cX5_init 140 = .ok (.aload_n 0, 1) := by decide +kernel
theorem dX5_init_141 : decode cX5_init 141 = .ok (.sipush 400, 3) := by decide +kernel
theorem dX5_init_144 : decode cX5_init 144 = .ok (.newarray .boolean, 2) := by decide +kernel
theorem dX5_init_146 : decode cX5_init 146 = .ok (.putfield 59, 3) := by decide +kernel
theorem dX5_init_149 : decode cX5_init 149 = .ok (.aload_n 0, 1) := by decide +kernel
theorem dX5_init_150 : decode cX5_init 150 = .ok (.sipush 400, 3) := by decide +kernel
theorem dX5_init_153 : decode cX5_init 153 = .ok (.newarray .int, 2) := by decide +kernel
theorem dX5_init_155 : decode cX5_init 155 = .ok (.putfield 63, 3) := by decide +kernel
theorem dX5_init_158 : decode cX5_init 158 = .ok (.aload_n 0, 1) := by decide +kernel
theorem dX5_init_159 : decode cX5_init 159 = .ok (.bipush 100, 2) := by decide +kernel
theorem dX5_init_161 : decode cX5_init 161 = .ok (.newarray .boolean, 2) := by decide +kernel
theorem dX5_init_163 : decode cX5_init 163 = .ok (.putfield 66, 3) := by decide +kernel
theorem dX5_init_166 : decode cX5_init 166 = .ok (.aload_n 0, 1) := by decide +kernel
theorem dX5_init_167 : decode cX5_init 167 = .ok (.bipush 64, 2) := by decide +kernel
theorem dX5_init_169 : decode cX5_init 169 = .ok (.newarray .int, 2) := by decide +kernel
theorem dX5_init_171 : decode cX5_init 171 = .ok (.putfield 69, 3) := by decide +kernel
theorem dX5_init_174 : decode cX5_init 174 = .ok (.aload_n 0, 1) := by decide +kernel
theorem dX5_init_175 : decode cX5_init 175 = .ok (.bipush 8, 2) := by decide +kernel
theorem dX5_init_177 : decode cX5_init 177 = .ok (.newarray .int, 2) := by decide +kernel
theorem dX5_init_179 : decode cX5_init 179 = .ok (.putfield 72, 3) := by decide +kernel
theorem dX5_init_182 : decode cX5_init 182 = .ok (.aload_n 0, 1) := by decide +kernel
theorem dX5_init_183 : decode cX5_init 183 = .ok (.bipush 64, 2) := by decide +kernel
theorem dX5_init_185 : decode cX5_init 185 = .ok (.newarray .int, 2) := by decide +kernel
theorem dX5_init_187 : decode cX5_init 187 = .ok (.putfield 75, 3) := by decide +kernel
theorem dX5_init_190 : decode cX5_init 190 = .ok (.aload_n 0, 1) := by decide +kernel
theorem dX5_init_191 : decode cX5_init 191 = .ok (.bipush 8, 2) := by decide +kernel
theorem dX5_init_193 : decode cX5_init 193 = .ok (.newarray .int, 2) := by decide +kernel
theorem dX5_init_195 : decode cX5_init 195 = .ok (.putfield 78, 3) := by decide +kernel
theorem dX5_init_198 : decode cX5_init 198 = .ok (.aload_n 0, 1) := by decide +kernel
theorem dX5_init_199 : decode cX5_init 199 = .ok (.bipush 8, 2) := by decide +kernel
theorem dX5_init_201 : decode cX5_init 201 = .ok (.newarray .int, 2) := by decide +kernel
theorem dX5_init_203 : decode cX5_init 203 = .ok (.putfield 81, 3) := by decide +kernel
theorem dX5_init_206 : decode cX5_init 206 = .ok (.return_, 1) := by decide +kernel
theorem dX5_thrown_0 : decode cX5_thrown 0 = .ok (.aload_n 0, 1) := by decide +kernel
theorem dX5_thrown_1 : decode cX5_thrown 1 = .ok (.getfield 84, 3) := by decide +kernel
theorem dX5_thrown_4 : decode cX5_thrown 4 = .ok (.ireturn, 1) := by decide +kernel
theorem dX5_person_0 : decode cX5_person 0 = .ok (.aload_n 0, 1) := by decide +kernel
theorem dX5_person_1 : decode cX5_person 1 = .ok (.iconst 0, 1) := by decide +kernel
theorem dX5_person_2 : decode cX5_person 2 = .ok (.putfield 84, 3) := by decide +kernel
theorem dX5_person_5 : decode cX5_person 5 = .ok (.aload_n 0, 1) := by decide +kernel
theorem dX5_person_6 : decode cX5_person 6 = .ok (.getfield 88, 3) := by decide +kernel
theorem dX5_person_9 : decode cX5_person 9 = .ok (.bipush 24, 2) := by decide +kernel
theorem dX5_person_11 : decode cX5_person 11 = .ok (.if_icmp .ne 6, 3) := by decide +kernel
theorem dX5_person_14 : decode cX5_person 14 = .ok (.bipush (-2), 2) := by decide +kernel
theorem dX5_person_16 : decode cX5_person 16 = .ok (.ireturn, 1) := by decide +kernel
theorem dX5_person_17 : decode cX5_person 17 = .ok (.aload_n 0, 1) := by decide +kernel
theorem dX5_person_18 : decode cX5_person 18 = .ok (.dup, 1) := by decide +kernel
theorem dX5_person_19 : decode cX5_person 19 = .ok (.getfield 88, 3) := by decide +kernel
theorem dX5_person_22 : decode cX5_person 22 = .ok (.iconst 1, 1) := by decide +kernel
theorem dX5_person_23 : decode cX5_person 23 = .ok (.iadd, 1) := by decide +kernel
theorem dX5_person_24 : decode cX5_person 24 = .ok (.putfield 88, 3) := by decide +kernel
theorem dX5_person_27 : decode cX5_person 27 = .ok (.aload_n 0, 1) := by decide +kernel
theorem dX5_person_28 : decode cX5_person 28 = .ok (.getfield 88, 3) := by decide +kernel
theorem dX5_person_31 : decode cX5_person 31 = .ok (.iconst 1, 1) := by decide +kernel
theorem dX5_person_32 : decode cX5_person 32 = .ok (.isub, 1) := by decide +kernel
theorem dX5_person_33 : decode cX5_person 33 = .ok (.ireturn, 1) := by decide +kernel
theorem dX5_isPerson_0 : decode cX5_isPerson 0 = .ok (.iload_n 1, 1) := by decide +kernel
theorem dX5_isPerson_1 : decode cX5_isPerson 1 = .ok (.ifCond .lt 15, 3) := by decide +kernel
theorem dX5_isPerson_4 : decode cX5_isPerson 4 = .ok (.iload_n 1, 1) := by decide +kernel
theorem dX5_isPerson_5 : decode cX5_isPerson 5 = .ok (.aload_n 0, 1) := by decide +kernel
theorem dX5_isPerson_6 : decode cX5_isPerson 6 = .ok (.getfield 88, 3) := by decide +kernel
theorem dX5_isPerson_9 : decode cX5_isPerson 9 = .ok (.if_icmp .ge 7, 3) := by decide +kernel
theorem dX5_isPerson_12 : decode cX5_isPerson 12 = .ok (.iconst 1, 1) := by decide +kernel
theorem dX5_isPerson_13 : decode cX5_isPerson 13 = .ok (.goto 4, 3) := by decide +kernel
theorem dX5_isPerson_16 : decode cX5_isPerson 16 = .ok (.iconst 0, 1) := by decide +kernel
theorem dX5_isPerson_17 : decode cX5_isPerson 17 = .ok (.ireturn, 1) := by decide +kernel
theorem dX5_isThing_0 : decode cX5_isThing 0 = .ok (.iload_n 1, 1) := by decide +kernel
theorem dX5_isThing_1 : decode cX5_isThing 1 = .ok (.ifCond .lt 15, 3) := by decide +kernel
theorem dX5_isThing_4 : decode cX5_isThing 4 = .ok (.iload_n 1, 1) := by decide +kernel
theorem dX5_isThing_5 : decode cX5_isThing 5 = .ok (.aload_n 0, 1) := by decide +kernel
theorem dX5_isThing_6 : decode cX5_isThing 6 = .ok (.getfield 91, 3) := by decide +kernel
theorem dX5_isThing_9 : decode cX5_isThing 9 = .ok (.if_icmp .ge 7, 3) := by decide +kernel
theorem dX5_isThing_12 : decode cX5_isThing 12 = .ok (.iconst 1, 1) := by decide +kernel
theorem dX5_isThing_13 : decode cX5_isThing 13 = .ok (.goto 4, 3) := by decide +kernel
theorem dX5_isThing_16 : decode cX5_isThing 16 = .ok (.iconst 0, 1) := by decide +kernel
theorem dX5_isThing_17 : decode cX5_isThing 17 = .ok (.ireturn, 1) := by decide +kernel
theorem dX5_isTen_0 : decode cX5_isTen 0 = .ok (.iload_n 0, 1) := by decide +kernel
theorem dX5_isTen_1 : decode cX5_isTen 1 = .ok (.ifCond .lt 13, 3) := by decide +kernel
theorem dX5_isTen_4 : decode cX5_isTen 4 = .ok (.iload_n 0, 1) := by decide +kernel
theorem dX5_isTen_5 : decode cX5_isTen 5 = .ok (.bipush 10, 2) := by decide +kernel
theorem dX5_isTen_7 : decode cX5_isTen 7 = .ok (.if_icmp .ge 7, 3) := by decide +kernel
theorem dX5_isTen_10 : decode cX5_isTen 10 = .ok (.iconst 1, 1) := by decide +kernel
theorem dX5_isTen_11 : decode cX5_isTen 11 = .ok (.goto 4, 3) := by decide +kernel
theorem dX5_isTen_14 : decode cX5_isTen 14 = .ok (.iconst 0, 1) := by decide +kernel
theorem dX5_isTen_15 : decode cX5_isTen 15 = .ok (.ireturn, 1) := by decide +kernel
theorem dX5_isSecond_0 : decode cX5_isSecond 0 = .ok (.lload_n 0, 1) := by decide +kernel
theorem dX5_isSecond_1 : decode cX5_isSecond 1 = .ok (.lconst 0, 1) := by decide +kernel
theorem dX5_isSecond_2 : decode cX5_isSecond 2 = .ok (.lcmp, 1) := by decide +kernel
theorem dX5_isSecond_3 : decode cX5_isSecond 3 = .ok (.ifCond .lt 15, 3) := by decide +kernel
theorem dX5_isSecond_6 : decode cX5_isSecond 6 = .ok (.lload_n 0, 1) := by decide +kernel
theorem dX5_isSecond_7 : decode cX5_isSecond 7 = .ok (.ldc2_w 94, 3) := by decide +kernel
theorem dX5_isSecond_10 : decode cX5_isSecond 10 = .ok (.lcmp, 1) := by decide +kernel
theorem dX5_isSecond_11 : decode cX5_isSecond 11 = .ok (.ifCond .gt 7, 3) := by decide +kernel
theorem dX5_isSecond_14 : decode cX5_isSecond 14 = .ok (.iconst 1, 1) := by decide +kernel
theorem dX5_isSecond_15 : decode cX5_isSecond 15 = .ok (.goto 4, 3) := by decide +kernel
theorem dX5_isSecond_18 : decode cX5_isSecond 18 = .ok (.iconst 0, 1) := by decide +kernel
theorem dX5_isSecond_19 : decode cX5_isSecond 19 = .ok (.ireturn, 1) := by decide +kernel
theorem dX5_role_0 : decode cX5_role 0 = .ok (.aload_n 0, 1) := by decide +kernel
theorem dX5_role_1 : decode cX5_role 1 = .ok (.iconst 0, 1) := by decide +kernel
theorem dX5_role_2 : decode cX5_role 2 = .ok (.putfield 84, 3) := by decide +kernel
theorem dX5_role_5 : decode cX5_role 5 = .ok (.aload_n 0, 1) := by decide +kernel
theorem dX5_role_6 : decode cX5_role 6 = .ok (.iload_n 1, 1) := by decide +kernel
theorem dX5_role_7 : decode cX5_role 7 = .ok (.invokevirtual 96, 3) := by decide +kernel
theorem dX5_role_10 : decode cX5_role 10 = .ok (.ifCond .eq 41, 3) := by decide +kernel
theorem dX5_role_13 : decode cX5_role 13 = .ok (.iload_n 2, 1) := by decide +kernel
theorem dX5_role_14 : decode cX5_role 14 = .ok (.invokestatic 100, 3) := by decide +kernel
theorem dX5_role_17 : decode cX5_role 17 = .ok (.ifCond .eq 34, 3) := by decide +kernel
theorem dX5_role_20 : decode cX5_role 20 = .ok (.lload_n 3, 1) := by decide +kernel
theorem dX5_role_21 : decode cX5_role 21 = .ok (.invokestatic 103, 3) := by decide +kernel
theorem dX5_role_24 : decode cX5_role 24 = .ok (.ifCond .eq 27, 3) := by decide +kernel
theorem dX5_role_27 : decode cX5_role 27 = .ok (.lload 5, 2) := by decide +kernel
theorem dX5_role_29 : decode cX5_role 29 = .ok (.invokestatic 103, 3) := by decide +kernel
theorem dX5_role_32 : decode cX5_role 32 = .ok (.ifCond .eq 19, 3) := by decide +kernel
theorem dX5_role_35 : decode cX5_role 35 = .ok (.lload_n 3, 1) := by decide +kernel
theorem dX5_role_36 : decode cX5_role 36 = .ok (.lload 5, 2) := by decide +kernel
theorem dX5_role_38 : decode cX5_role 38 = .ok (.lcmp, 1) := by decide +kernel
theorem dX5_role_39 : decode cX5_role 39 = .ok (.ifCond .gt 12, 3) := by decide +kernel
theorem dX5_role_42 : decode cX5_role 42 = .ok (.aload_n 0, 1) := by decide +kernel
theorem dX5_role_43 : decode cX5_role 43 = .ok (.getfield 107, 3) := by decide +kernel
theorem dX5_role_46 : decode cX5_role 46 = .ok (.bipush 100, 2) := by decide +kernel
theorem dX5_role_48 : decode cX5_role 48 = .ok (.if_icmp .ne 5, 3) := by decide +kernel
theorem dX5_role_51 : decode cX5_role 51 = .ok (.iconst 0, 1) := by decide +kernel
theorem dX5_role_52 : decode cX5_role 52 = .ok (.ireturn, 1) := by decide +kernel
theorem dX5_role_53 : decode cX5_role 53 = .ok (.aload_n 0, 1) := by decide +kernel
theorem dX5_role_54 : decode cX5_role 54 = .ok (.getfield 9, 3) := by decide +kernel
theorem dX5_role_57 : decode cX5_role 57 = .ok (.aload_n 0, 1) := by decide +kernel
theorem dX5_role_58 : decode cX5_role 58 = .ok (.getfield 107, 3) := by decide +kernel
theorem dX5_role_61 : decode cX5_role 61 = .ok (.iload_n 1, 1) := by decide +kernel
theorem dX5_role_62 : decode cX5_role 62 = .ok (.iastore, 1) := by decide +kernel
theorem dX5_role_63 : decode cX5_role 63 = .ok (.aload_n 0, 1) := by decide +kernel
theorem dX5_role_64 : decode cX5_role 64 = .ok (.getfield 13, 3) := by decide +kernel
theorem dX5_role_67 : decode cX5_role 67 = .ok (.aload_n 0, 1) := by decide +kernel
theorem dX5_role_68 : decode cX5_role 68 = .ok (.getfield 107, 3) := by decide +kernel
theorem dX5_role_71 : decode cX5_role 71 = .ok (.iload_n 2, 1) := by decide +kernel
theorem dX5_role_72 : decode cX5_role 72 = .ok (.iastore, 1) := by decide +kernel
theorem dX5_role_73 : decode cX5_role 73 = .ok (.aload_n 0, 1) := by decide +kernel
theorem dX5_role_74 : decode cX5_role 74 = .ok (.getfield 16, 3) := by decide +kernel
theorem dX5_role_77 : decode cX5_role 77 = .ok (.aload_n 0, 1) := by decide +kernel
theorem dX5_role_78 : decode cX5_role 78 = .ok (.getfield 107, 3) := by decide +kernel
theorem dX5_role_81 : decode cX5_role 81 = .ok (.lload_n 3, 1) := by decide +kernel
theorem dX5_role_82 : decode cX5_role 82 = .ok (.lastore, 1) := by decide +kernel
theorem dX5_role_83 : decode cX5_role 83 = .ok (.aload_n 0, 1) := by decide +kernel
theorem dX5_role_84 : decode cX5_role 84 = .ok (.getfield 20, 3) := by decide +kernel
theorem dX5_role_87 : decode cX5_role 87 = .ok (.aload_n 0, 1) := by decide +kernel
theorem dX5_role_88 : decode cX5_role 88 = .ok (.getfield 107, 3) := by decide +kernel
theorem dX5_role_91 : decode cX5_role 91 = .ok (.lload 5, 2) := by decide +kernel
theorem dX5_role_93 : decode cX5_role 93 = .ok (.lastore, 1) := by decide +kernel
theorem dX5_role_94 : decode cX5_role 94 = .ok (.aload_n 0, 1) := by decide +kernel
theorem dX5_role_95 : decode cX5_role 95 = .ok (.dup, 1) := by decide +kernel
theorem dX5_role_96 : decode cX5_role 96 = .ok (.getfield 107, 3) := by decide +kernel
theorem dX5_role_99 : decode cX5_role 99 = .ok (.iconst 1, 1) := by decide +kernel
theorem dX5_role_100 : decode cX5_role 100 = .ok (.iadd, 1) := by decide +kernel
theorem dX5_role_101 : decode cX5_role 101 = .ok (.putfield 107, 3) := by decide +kernel
theorem dX5_role_104 : decode cX5_role 104 = .ok (.iconst 1, 1) := by decide +kernel
theorem dX5_role_105 : decode cX5_role 105 = .ok (.ireturn, 1) := by decide +kernel
theorem dX5_thing_0 : decode cX5_thing 0 = .ok (.aload_n 0, 1) := by decide +kernel
theorem dX5_thing_1 : decode cX5_thing 1 = .ok (.iconst 0, 1) := by decide +kernel
theorem dX5_thing_2 : decode cX5_thing 2 = .ok (.putfield 84, 3) := by decide +kernel
theorem dX5_thing_5 : decode cX5_thing 5 = .ok (.aload_n 0, 1) := by decide +kernel
theorem dX5_thing_6 : decode cX5_thing 6 = .ok (.iload_n 1, 1) := by decide +kernel
theorem dX5_thing_7 : decode cX5_thing 7 = .ok (.invokevirtual 96, 3) := by decide +kernel
theorem dX5_thing_10 : decode cX5_thing 10 = .ok (.ifCond .ne 5, 3) := by decide +kernel
theorem dX5_thing_13 : decode cX5_thing 13 = .ok (.iconst (-1), 1) := by decide +kernel
theorem dX5_thing_14 : decode cX5_thing 14 = .ok (.ireturn, 1) := by decide +kernel
theorem dX5_thing_15 : decode cX5_thing 15 = .ok (.aload_n 0, 1) := by decide +kernel
theorem dX5_thing_16 : decode cX5_thing 16 = .ok (.getfield 91, 3) := by decide +kernel
theorem dX5_thing_19 : decode cX5_thing 19 = .ok (.bipush 16, 2) := by decide +kernel
theorem dX5_thing_21 : decode cX5_thing 21 = .ok (.if_icmp .ne 6, 3) := by decide +kernel
theorem dX5_thing_24 : decode cX5_thing 24 = .ok (.bipush (-2), 2) := by decide +kernel
theorem dX5_thing_26 : decode cX5_thing 26 = .ok (.ireturn, 1) := by decide +kernel
theorem dX5_thing_27 : decode cX5_thing 27 = .ok (.aload_n 0, 1) := by decide +kernel
theorem dX5_thing_28 : decode cX5_thing 28 = .ok (.getfield 23, 3) := by decide +kernel
theorem dX5_thing_31 : decode cX5_thing 31 = .ok (.aload_n 0, 1) := by decide +kernel
theorem dX5_thing_32 : decode cX5_thing 32 = .ok (.getfield 91, 3) := by decide +kernel
theorem dX5_thing_35 : decode cX5_thing 35 = .ok (.iload_n 1, 1) := by decide +kernel
theorem dX5_thing_36 : decode cX5_thing 36 = .ok (.iastore, 1) := by decide +kernel
theorem dX5_thing_37 : decode cX5_thing 37 = .ok (.aload_n 0, 1) := by decide +kernel
theorem dX5_thing_38 : decode cX5_thing 38 = .ok (.aload_n 0, 1) := by decide +kernel
theorem dX5_thing_39 : decode cX5_thing 39 = .ok (.getfield 91, 3) := by decide +kernel
theorem dX5_thing_42 : decode cX5_thing 42 = .ok (.invokevirtual 110, 3) := by decide +kernel
theorem dX5_thing_45 : decode cX5_thing 45 = .ok (.aload_n 0, 1) := by decide +kernel
theorem dX5_thing_46 : decode cX5_thing 46 = .ok (.dup, 1) := by decide +kernel
theorem dX5_thing_47 : decode cX5_thing 47 = .ok (.getfield 91, 3) := by decide +kernel
theorem dX5_thing_50 : decode cX5_thing 50 = .ok (.iconst 1, 1) := by decide +kernel
theorem dX5_thing_51 : decode cX5_thing 51 = .ok (.iadd, 1) := by decide +kernel
theorem dX5_thing_52 : decode cX5_thing 52 = .ok (.putfield 91, 3) := by decide +kernel
theorem dX5_thing_55 : decode cX5_thing 55 = .ok (.aload_n 0, 1) := by decide +kernel
theorem dX5_thing_56 : decode cX5_thing 56 = .ok (.getfield 91, 3) := by decide +kernel
theorem dX5_thing_59 : decode cX5_thing 59 = .ok (.iconst 1, 1) := by decide +kernel
theorem dX5_thing_60 : decode cX5_thing 60 = .ok (.isub, 1) := by decide +kernel
theorem dX5_thing_61 : decode cX5_thing 61 = .ok (.ireturn, 1) := by decide +kernel
theorem dX5_byteOf_0 : decode cX5_byteOf 0 = .ok (.aload_n 0, 1) := by decide +kernel
theorem dX5_byteOf_1 : decode cX5_byteOf 1 = .ok (.iconst 0, 1) := by decide +kernel
theorem dX5_byteOf_2 : decode cX5_byteOf 2 = .ok (.putfield 84, 3) := by decide +kernel
theorem dX5_byteOf_5 : decode cX5_byteOf 5 = .ok (.aload_n 0, 1) := by decide +kernel
theorem dX5_byteOf_6 : decode cX5_byteOf 6 = .ok (.iload_n 1, 1) := by decide +kernel
theorem dX5_byteOf_7 : decode cX5_byteOf 7 = .ok (.invokevirtual 114, 3) := by decide +kernel
theorem dX5_byteOf_10 : decode cX5_byteOf 10 = .ok (.ifCond .eq 26, 3) := by decide +kernel
theorem dX5_byteOf_13 : decode cX5_byteOf 13 = .ok (.iload_n 2, 1) := by decide +kernel
theorem dX5_byteOf_14 : decode cX5_byteOf 14 = .ok (.ifCond .lt 22, 3) := by decide +kernel
theorem dX5_byteOf_17 : decode cX5_byteOf 17 = .ok (.iload_n 2, 1) := by decide +kernel
theorem dX5_byteOf_18 : decode cX5_byteOf 18 = .ok (.sipush 255, 3) := by decide +kernel
theorem dX5_byteOf_21 : decode cX5_byteOf 21 = .ok (.if_icmp .gt 15, 3) := by decide +kernel
theorem dX5_byteOf_24 : decode cX5_byteOf 24 = .ok (.aload_n 0, 1) := by decide +kernel
theorem dX5_byteOf_25 : decode cX5_byteOf 25 = .ok (.getfield 26, 3) := by decide +kernel
theorem dX5_byteOf_28 : decode cX5_byteOf 28 = .ok (.iload_n 1, 1) := by decide +kernel
theorem dX5_byteOf_29 : decode cX5_byteOf 29 = .ok (.iaload, 1) := by decide +kernel
theorem dX5_byteOf_30 : decode cX5_byteOf 30 = .ok (.sipush 1000, 3) := by decide +kernel
theorem dX5_byteOf_33 : decode cX5_byteOf 33 = .ok (.if_icmp .ne 5, 3) := by decide +kernel
theorem dX5_byteOf_36 : decode cX5_byteOf 36 = .ok (.iconst 0, 1) := by decide +kernel
theorem dX5_byteOf_37 : decode cX5_byteOf 37 = .ok (.ireturn, 1) := by decide +kernel
theorem dX5_byteOf_38 : decode cX5_byteOf 38 = .ok (.aload_n 0, 1) := by decide +kernel
theorem dX5_byteOf_39 : decode cX5_byteOf 39 = .ok (.getfield 32, 3) := by decide +kernel
theorem dX5_byteOf_42 : decode cX5_byteOf 42 = .ok (.sipush 1000, 3) := by decide +kernel
theorem dX5_byteOf_45 : decode cX5_byteOf 45 = .ok (.iload_n 1, 1) := by decide +kernel
theorem dX5_byteOf_46 : decode cX5_byteOf 46 = .ok (.imul, 1) := by decide +kernel
theorem dX5_byteOf_47 : decode cX5_byteOf 47 = .ok (.aload_n 0, 1) := by decide +kernel
theorem dX5_byteOf_48 : decode cX5_byteOf 48 = .ok (.getfield 26, 3) := by decide +kernel
theorem dX5_byteOf_51 : decode cX5_byteOf 51 = .ok (.iload_n 1, 1) := by decide +kernel
theorem dX5_byteOf_52 : decode cX5_byteOf 52 = .ok (.iaload, 1) := by decide +kernel
theorem dX5_byteOf_53 : decode cX5_byteOf 53 = .ok (.iadd, 1) := by decide +kernel
theorem dX5_byteOf_54 : decode cX5_byteOf 54 = .ok (.iload_n 2, 1) := by decide +kernel
theorem dX5_byteOf_55 : decode cX5_byteOf 55 = .ok (.iastore, 1) := by decide +kernel
theorem dX5_byteOf_56 : decode cX5_byteOf 56 = .ok (.aload_n 0, 1) := by decide +kernel
theorem dX5_byteOf_57 : decode cX5_byteOf 57 = .ok (.getfield 26, 3) := by decide +kernel
theorem dX5_byteOf_60 : decode cX5_byteOf 60 = .ok (.iload_n 1, 1) := by decide +kernel
theorem dX5_byteOf_61 : decode cX5_byteOf 61 = .ok (.dup2, 1) := by decide +kernel
theorem dX5_byteOf_62 : decode cX5_byteOf 62 = .ok (.iaload, 1) := by decide +kernel
theorem dX5_byteOf_63 : decode cX5_byteOf 63 = .ok (.iconst 1, 1) := by decide +kernel
theorem dX5_byteOf_64 : decode cX5_byteOf 64 = .ok (.iadd, 1) := by decide +kernel
theorem dX5_byteOf_65 : decode cX5_byteOf 65 = .ok (.iastore, 1) := by decide +kernel
theorem dX5_byteOf_66 : decode cX5_byteOf 66 = .ok (.aload_n 0, 1) := by decide +kernel
theorem dX5_byteOf_67 : decode cX5_byteOf 67 = .ok (.iload_n 1, 1) := by decide +kernel
theorem dX5_byteOf_68 : decode cX5_byteOf 68 = .ok (.invokevirtual 110, 3) := by decide +kernel
theorem dX5_byteOf_71 : decode cX5_byteOf 71 = .ok (.iconst 1, 1) := by decide +kernel
theorem dX5_byteOf_72 : decode cX5_byteOf 72 = .ok (.ireturn, 1) := by decide +kernel
theorem dX5_stands_0 : decode cX5_stands 0 = .ok (.aload_n 0, 1) := by decide +kernel
theorem dX5_stands_1 : decode cX5_stands 1 = .ok (.getfield 59, 3) := by decide +kernel
theorem dX5_stands_4 : decode cX5_stands 4 = .ok (.iload_n 1, 1) := by decide +kernel
theorem dX5_stands_5 : decode cX5_stands 5 = .ok (.baload, 1) := by decide +kernel
theorem dX5_stands_6 : decode cX5_stands 6 = .ok (.ifCond .ne 7, 3) := by decide +kernel
theorem dX5_stands_9 : decode cX5_stands 9 = .ok (.iconst 1, 1) := by decide +kernel
theorem dX5_stands_10 : decode cX5_stands 10 = .ok (.goto 4, 3) := by decide +kernel
theorem dX5_stands_13 : decode cX5_stands 13 = .ok (.iconst 0, 1) := by decide +kernel
theorem dX5_stands_14 : decode cX5_stands 14 = .ok (.istore_n 2, 1) := by decide +kernel
theorem dX5_stands_15 : decode cX5_stands 15 = .ok (.iconst 0, 1) := by decide +kernel
theorem dX5_stands_16 : decode cX5_stands 16 = .ok (.istore_n 3, 1) := by decide +kernel
theorem dX5_stands_17 : decode cX5_stands 17 = .ok (.iload_n 3, 1) := by decide +kernel
theorem dX5_stands_18 : decode cX5_stands 18 = .ok (.bipush 8, 2) := by decide +kernel
theorem dX5_stands_20 : decode cX5_stands 20 = .ok (.if_icmp .ge 49, 3) := by decide +kernel
theorem dX5_stands_23 : decode cX5_stands 23 = .ok (.iload_n 2, 1) := by decide +kernel
theorem dX5_stands_24 : decode cX5_stands 24 = .ok (.ifCond .eq 37, 3) := by decide +kernel
theorem dX5_stands_27 : decode cX5_stands 27 = .ok (.aload_n 0, 1) := by decide +kernel
theorem dX5_stands_28 : decode cX5_stands 28 = .ok (.getfield 56, 3) := by decide +kernel
theorem dX5_stands_31 : decode cX5_stands 31 = .ok (.bipush 8, 2) := by decide +kernel
theorem dX5_stands_33 : decode cX5_stands 33 = .ok (.iload_n 1, 1) := by decide +kernel
theorem dX5_stands_34 : decode cX5_stands 34 = .ok (.imul, 1) := by decide +kernel
theorem dX5_stands_35 : decode cX5_stands 35 = .ok (.iload_n 3, 1) := by decide +kernel
theorem dX5_stands_36 : decode cX5_stands 36 = .ok (.iadd, 1) := by decide +kernel
theorem dX5_stands_37 : decode cX5_stands 37 = .ok (.iaload, 1) := by decide +kernel
theorem dX5_stands_38 : decode cX5_stands 38 = .ok (.aload_n 0, 1) := by decide +kernel
theorem dX5_stands_39 : decode cX5_stands 39 = .ok (.getfield 29, 3) := by decide +kernel
theorem dX5_stands_42 : decode cX5_stands 42 = .ok (.bipush 8, 2) := by decide +kernel
theorem dX5_stands_44 : decode cX5_stands 44 = .ok (.aload_n 0, 1) := by decide +kernel
theorem dX5_stands_45 : decode cX5_stands 45 = .ok (.getfield 47, 3) := by decide +kernel
theorem dX5_stands_48 : decode cX5_stands 48 = .ok (.iload_n 1, 1) := by decide +kernel
theorem dX5_stands_49 : decode cX5_stands 49 = .ok (.iaload, 1) := by decide +kernel
theorem dX5_stands_50 : decode cX5_stands 50 = .ok (.imul, 1) := by decide +kernel
theorem dX5_stands_51 : decode cX5_stands 51 = .ok (.iload_n 3, 1) := by decide +kernel
theorem dX5_stands_52 : decode cX5_stands 52 = .ok (.iadd, 1) := by decide +kernel
theorem dX5_stands_53 : decode cX5_stands 53 = .ok (.iaload, 1) := by decide +kernel
theorem dX5_stands_54 : decode cX5_stands 54 = .ok (.if_icmp .ne 7, 3) := by decide +kernel
theorem dX5_stands_57 : decode cX5_stands 57 = .ok (.iconst 1, 1) := by decide +kernel
theorem dX5_stands_58 : decode cX5_stands 58 = .ok (.goto 4, 3) := by decide +kernel
theorem dX5_stands_61 : decode cX5_stands 61 = .ok (.iconst 0, 1) := by decide +kernel
theorem dX5_stands_62 : decode cX5_stands 62 = .ok (.istore_n 2, 1) := by decide +kernel
theorem dX5_stands_63 : decode cX5_stands 63 = .ok (.iinc 3 1, 3) := by decide +kernel
theorem dX5_stands_66 : decode cX5_stands 66 = .ok (.goto (-49), 3) := by decide +kernel
theorem dX5_stands_69 : decode cX5_stands 69 = .ok (.iload_n 2, 1) := by decide +kernel
theorem dX5_stands_70 : decode cX5_stands 70 = .ok (.ireturn, 1) := by decide +kernel
theorem dX5_has_0 : decode cX5_has 0 = .ok (.iconst 0, 1) := by decide +kernel
theorem dX5_has_1 : decode cX5_has 1 = .ok (.istore 4, 2) := by decide +kernel
theorem dX5_has_3 : decode cX5_has 3 = .ok (.iconst 0, 1) := by decide +kernel
theorem dX5_has_4 : decode cX5_has 4 = .ok (.istore 5, 2) := by decide +kernel
theorem dX5_has_6 : decode cX5_has 6 = .ok (.iload 5, 2) := by decide +kernel
theorem dX5_has_8 : decode cX5_has 8 = .ok (.aload_n 0, 1) := by decide +kernel
theorem dX5_has_9 : decode cX5_has 9 = .ok (.getfield 117, 3) := by decide +kernel
theorem dX5_has_12 : decode cX5_has 12 = .ok (.if_icmp .ge 68, 3) := by decide +kernel
theorem dX5_has_15 : decode cX5_has 15 = .ok (.iload 4, 2) := by decide +kernel
theorem dX5_has_17 : decode cX5_has 17 = .ok (.ifCond .ne 50, 3) := by decide +kernel
theorem dX5_has_20 : decode cX5_has 20 = .ok (.aload_n 0, 1) := by decide +kernel
theorem dX5_has_21 : decode cX5_has 21 = .ok (.getfield 47, 3) := by decide +kernel
theorem dX5_has_24 : decode cX5_has 24 = .ok (.iload 5, 2) := by decide +kernel
theorem dX5_has_26 : decode cX5_has 26 = .ok (.iaload, 1) := by decide +kernel
theorem dX5_has_27 : decode cX5_has 27 = .ok (.iload_n 1, 1) := by decide +kernel
theorem dX5_has_28 : decode cX5_has 28 = .ok (.if_icmp .ne 43, 3) := by decide +kernel
theorem dX5_has_31 : decode cX5_has 31 = .ok (.aload_n 0, 1) := by decide +kernel
theorem dX5_has_32 : decode cX5_has 32 = .ok (.getfield 53, 3) := by decide +kernel
theorem dX5_has_35 : decode cX5_has 35 = .ok (.iload 5, 2) := by decide +kernel
theorem dX5_has_37 : decode cX5_has 37 = .ok (.iaload, 1) := by decide +kernel
theorem dX5_has_38 : decode cX5_has 38 = .ok (.iload_n 2, 1) := by decide +kernel
theorem dX5_has_39 : decode cX5_has 39 = .ok (.if_icmp .ne 32, 3) := by decide +kernel
theorem dX5_has_42 : decode cX5_has 42 = .ok (.iload_n 3, 1) := by decide +kernel
theorem dX5_has_43 : decode cX5_has 43 = .ok (.iconst (-1), 1) := by decide +kernel
theorem dX5_has_44 : decode cX5_has 44 = .ok (.if_icmp .eq 14, 3) := by decide +kernel
theorem dX5_has_47 : decode cX5_has 47 = .ok (.aload_n 0, 1) := by decide +kernel
theorem dX5_has_48 : decode cX5_has 48 = .ok (.getfield 50, 3) := by decide +kernel
theorem dX5_has_51 : decode cX5_has 51 = .ok (.iload 5, 2) := by decide +kernel
theorem dX5_has_53 : decode cX5_has 53 = .ok (.iaload, 1) := by decide +kernel
theorem dX5_has_54 : decode cX5_has 54 = .ok (.iload_n 3, 1) := by decide +kernel
theorem dX5_has_55 : decode cX5_has 55 = .ok (.if_icmp .ne 16, 3) := by decide +kernel
theorem dX5_has_58 : decode cX5_has 58 = .ok (.aload_n 0, 1) := by decide +kernel
theorem dX5_has_59 : decode cX5_has 59 = .ok (.iload 5, 2) := by decide +kernel
theorem dX5_has_61 : decode cX5_has 61 = .ok (.invokevirtual 120, 3) := by decide +kernel
theorem dX5_has_64 : decode cX5_has 64 = .ok (.ifCond .eq 7, 3) := by decide +kernel
theorem dX5_has_67 : decode cX5_has 67 = .ok (.iconst 1, 1) := by decide +kernel
theorem dX5_has_68 : decode cX5_has 68 = .ok (.goto 4, 3) := by decide +kernel
theorem dX5_has_71 : decode cX5_has 71 = .ok (.iconst 0, 1) := by decide +kernel
theorem dX5_has_72 : decode cX5_has 72 = .ok (.istore 4, 2) := by decide +kernel
theorem dX5_has_74 : decode cX5_has 74 = .ok (.iinc 5 1, 3) := by decide +kernel
theorem dX5_has_77 : decode cX5_has 77 = .ok (.goto (-71), 3) := by decide +kernel
theorem dX5_has_80 : decode cX5_has 80 = .ok (.iload 4, 2) := by decide +kernel
theorem dX5_has_82 : decode cX5_has 82 = .ok (.ireturn, 1) := by decide +kernel
theorem dX5_sign_0 : decode cX5_sign 0 = .ok (.aload_n 0, 1) := by decide +kernel
theorem dX5_sign_1 : decode cX5_sign 1 = .ok (.iconst 0, 1) := by decide +kernel
theorem dX5_sign_2 : decode cX5_sign 2 = .ok (.putfield 84, 3) := by decide +kernel
theorem dX5_sign_5 : decode cX5_sign 5 = .ok (.aload_n 0, 1) := by decide +kernel
theorem dX5_sign_6 : decode cX5_sign 6 = .ok (.iload_n 1, 1) := by decide +kernel
theorem dX5_sign_7 : decode cX5_sign 7 = .ok (.invokevirtual 114, 3) := by decide +kernel
theorem dX5_sign_10 : decode cX5_sign 10 = .ok (.ifCond .eq 18, 3) := by decide +kernel
theorem dX5_sign_13 : decode cX5_sign 13 = .ok (.aload_n 0, 1) := by decide +kernel
theorem dX5_sign_14 : decode cX5_sign 14 = .ok (.iload_n 2, 1) := by decide +kernel
theorem dX5_sign_15 : decode cX5_sign 15 = .ok (.invokevirtual 96, 3) := by decide +kernel
theorem dX5_sign_18 : decode cX5_sign 18 = .ok (.ifCond .eq 10, 3) := by decide +kernel
theorem dX5_sign_21 : decode cX5_sign 21 = .ok (.iload_n 3, 1) := by decide +kernel
theorem dX5_sign_22 : decode cX5_sign 22 = .ok (.invokestatic 100, 3) := by decide +kernel
theorem dX5_sign_25 : decode cX5_sign 25 = .ok (.ifCond .ne 5, 3) := by decide +kernel
theorem dX5_sign_28 : decode cX5_sign 28 = .ok (.iconst (-1), 1) := by decide +kernel
theorem dX5_sign_29 : decode cX5_sign 29 = .ok (.ireturn, 1) := by decide +kernel
theorem dX5_sign_30 : decode cX5_sign 30 = .ok (.lload 4, 2) := by decide +kernel
theorem dX5_sign_32 : decode cX5_sign 32 = .ok (.invokestatic 103, 3) := by decide +kernel
theorem dX5_sign_35 : decode cX5_sign 35 = .ok (.ifCond .eq 13, 3) := by decide +kernel
theorem dX5_sign_38 : decode cX5_sign 38 = .ok (.lload 4, 2) := by decide +kernel
theorem dX5_sign_40 : decode cX5_sign 40 = .ok (.aload_n 0, 1) := by decide +kernel
theorem dX5_sign_41 : decode cX5_sign 41 = .ok (.getfield 123, 3) := by decide +kernel
theorem dX5_sign_44 : decode cX5_sign 44 = .ok (.lcmp, 1) := by decide +kernel
theorem dX5_sign_45 : decode cX5_sign 45 = .ok (.ifCond .ge 6, 3) := by decide +kernel
theorem dX5_sign_48 : decode cX5_sign 48 = .ok (.bipush (-3), 2) := by decide +kernel
theorem dX5_sign_50 : decode cX5_sign 50 = .ok (.ireturn, 1) := by decide +kernel
theorem dX5_sign_51 : decode cX5_sign 51 = .ok (.iconst 0, 1) := by decide +kernel
theorem dX5_sign_52 : decode cX5_sign 52 = .ok (.istore 6, 2) := by decide +kernel
theorem dX5_sign_54 : decode cX5_sign 54 = .ok (.iconst 0, 1) := by decide +kernel
theorem dX5_sign_55 : decode cX5_sign 55 = .ok (.istore 7, 2) := by decide +kernel
theorem dX5_sign_57 : decode cX5_sign 57 = .ok (.iload 7, 2) := by decide +kernel
theorem dX5_sign_59 : decode cX5_sign 59 = .ok (.aload_n 0, 1) := by decide +kernel
theorem dX5_sign_60 : decode cX5_sign 60 = .ok (.getfield 107, 3) := by decide +kernel
theorem dX5_sign_63 : decode cX5_sign 63 = .ok (.if_icmp .ge 69, 3) := by decide +kernel
theorem dX5_sign_66 : decode cX5_sign 66 = .ok (.iload 6, 2) := by decide +kernel
theorem dX5_sign_68 : decode cX5_sign 68 = .ok (.ifCond .ne 51, 3) := by decide +kernel
theorem dX5_sign_71 : decode cX5_sign 71 = .ok (.aload_n 0, 1) := by decide +kernel
theorem dX5_sign_72 : decode cX5_sign 72 = .ok (.getfield 9, 3) := by decide +kernel
theorem dX5_sign_75 : decode cX5_sign 75 = .ok (.iload 7, 2) := by decide +kernel
theorem dX5_sign_77 : decode cX5_sign 77 = .ok (.iaload, 1) := by decide +kernel
theorem dX5_sign_78 : decode cX5_sign 78 = .ok (.iload_n 2, 1) := by decide +kernel
theorem dX5_sign_79 : decode cX5_sign 79 = .ok (.if_icmp .ne 44, 3) := by decide +kernel
theorem dX5_sign_82 : decode cX5_sign 82 = .ok (.aload_n 0, 1) := by decide +kernel
theorem dX5_sign_83 : decode cX5_sign 83 = .ok (.getfield 13, 3) := by decide +kernel
theorem dX5_sign_86 : decode cX5_sign 86 = .ok (.iload 7, 2) := by decide +kernel
theorem dX5_sign_88 : decode cX5_sign 88 = .ok (.iaload, 1) := by decide +kernel
theorem dX5_sign_89 : decode cX5_sign 89 = .ok (.iload_n 3, 1) := by decide +kernel
theorem dX5_sign_90 : decode cX5_sign 90 = .ok (.if_icmp .ne 33, 3) := by decide +kernel
theorem dX5_sign_93 : decode cX5_sign 93 = .ok (.aload_n 0, 1) := by decide +kernel
theorem dX5_sign_94 : decode cX5_sign 94 = .ok (.getfield 16, 3) := by decide +kernel
theorem dX5_sign_97 : decode cX5_sign 97 = .ok (.iload 7, 2) := by decide +kernel
theorem dX5_sign_99 : decode cX5_sign 99 = .ok (.laload, 1) := by decide +kernel
theorem dX5_sign_100 : decode cX5_sign 100 = .ok (.lload 4, 2) := by decide +kernel
theorem dX5_sign_102 : decode cX5_sign 102 = .ok (.lcmp, 1) := by decide +kernel
theorem dX5_sign_103 : decode cX5_sign 103 = .ok (.ifCond .gt 20, 3) := by decide +kernel
theorem dX5_sign_106 : decode cX5_sign 106 = .ok (.lload 4, 2) := by decide +kernel
theorem dX5_sign_108 : decode cX5_sign 108 = .ok (.aload_n 0, 1) := by decide +kernel
theorem dX5_sign_109 : decode cX5_sign 109 = .ok (.getfield 20, 3) := by decide +kernel
theorem dX5_sign_112 : decode cX5_sign 112 = .ok (.iload 7, 2) := by decide +kernel
theorem dX5_sign_114 : decode cX5_sign 114 = .ok (.laload, 1) := by decide +kernel
theorem dX5_sign_115 : decode cX5_sign 115 = .ok (.lcmp, 1) := by decide +kernel
theorem dX5_sign_116 : decode cX5_sign 116 = .ok (.ifCond .gt 7, 3) := by decide +kernel
theorem dX5_sign_119 : decode cX5_sign 119 = .ok (.iconst 1, 1) := by decide +kernel
theorem dX5_sign_120 : decode cX5_sign 120 = .ok (.goto 4, 3) := by decide +kernel
theorem dX5_sign_123 : decode cX5_sign 123 = .ok (.iconst 0, 1) := by decide +kernel
theorem dX5_sign_124 : decode cX5_sign 124 = .ok (.istore 6, 2) := by decide +kernel
theorem dX5_sign_126 : decode cX5_sign 126 = .ok (.iinc 7 1, 3) := by decide +kernel
theorem dX5_sign_129 : decode cX5_sign 129 = .ok (.goto (-72), 3) := by decide +kernel
theorem dX5_sign_132 : decode cX5_sign 132 = .ok (.iload 6, 2) := by decide +kernel
theorem dX5_sign_134 : decode cX5_sign 134 = .ok (.ifCond .ne 10, 3) := by decide +kernel
theorem dX5_sign_137 : decode cX5_sign 137 = .ok (.aload_n 0, 1) := by decide +kernel
theorem dX5_sign_138 : decode cX5_sign 138 = .ok (.iconst 1, 1) := by decide +kernel
theorem dX5_sign_139 : decode cX5_sign 139 = .ok (.putfield 84, 3) := by decide +kernel
theorem dX5_sign_142 : decode cX5_sign 142 = .ok (.iconst 0, 1) := by decide +kernel
theorem dX5_sign_143 : decode cX5_sign 143 = .ok (.ireturn, 1) := by decide +kernel
theorem dX5_sign_144 : decode cX5_sign 144 = .ok (.aload_n 0, 1) := by decide +kernel
theorem dX5_sign_145 : decode cX5_sign 145 = .ok (.getfield 23, 3) := by decide +kernel
theorem dX5_sign_148 : decode cX5_sign 148 = .ok (.iload_n 1, 1) := by decide +kernel
theorem dX5_sign_149 : decode cX5_sign 149 = .ok (.iaload, 1) := by decide +kernel
theorem dX5_sign_150 : decode cX5_sign 150 = .ok (.iload_n 2, 1) := by decide +kernel
theorem dX5_sign_151 : decode cX5_sign 151 = .ok (.if_icmp .ne 6, 3) := by decide +kernel
theorem dX5_sign_154 : decode cX5_sign 154 = .ok (.bipush (-4), 2) := by decide +kernel
theorem dX5_sign_156 : decode cX5_sign 156 = .ok (.ireturn, 1) := by decide +kernel
theorem dX5_sign_157 : decode cX5_sign 157 = .ok (.iconst 0, 1) := by decide +kernel
theorem dX5_sign_158 : decode cX5_sign 158 = .ok (.istore 7, 2) := by decide +kernel
theorem dX5_sign_160 : decode cX5_sign 160 = .ok (.iload 7, 2) := by decide +kernel
theorem dX5_sign_162 : decode cX5_sign 162 = .ok (.bipush 10, 2) := by decide +kernel
theorem dX5_sign_164 : decode cX5_sign 164 = .ok (.if_icmp .ge 38, 3) := by decide +kernel
theorem dX5_sign_167 : decode cX5_sign 167 = .ok (.aload_n 0, 1) := by decide +kernel
theorem dX5_sign_168 : decode cX5_sign 168 = .ok (.getfield 66, 3) := by decide +kernel
theorem dX5_sign_171 : decode cX5_sign 171 = .ok (.bipush 10, 2) := by decide +kernel
theorem dX5_sign_173 : decode cX5_sign 173 = .ok (.iload_n 3, 1) := by decide +kernel
theorem dX5_sign_174 : decode cX5_sign 174 = .ok (.imul, 1) := by decide +kernel
theorem dX5_sign_175 : decode cX5_sign 175 = .ok (.iload 7, 2) := by decide +kernel
theorem dX5_sign_177 : decode cX5_sign 177 = .ok (.iadd, 1) := by decide +kernel
theorem dX5_sign_178 : decode cX5_sign 178 = .ok (.baload, 1) := by decide +kernel
theorem dX5_sign_179 : decode cX5_sign 179 = .ok (.ifCond .eq 17, 3) := by decide +kernel
theorem dX5_sign_182 : decode cX5_sign 182 = .ok (.aload_n 0, 1) := by decide +kernel
theorem dX5_sign_183 : decode cX5_sign 183 = .ok (.iload_n 1, 1) := by decide +kernel
theorem dX5_sign_184 : decode cX5_sign 184 = .ok (.iload 7, 2) := by decide +kernel
theorem dX5_sign_186 : decode cX5_sign 186 = .ok (.iconst (-1), 1) := by decide +kernel
theorem dX5_sign_187 : decode cX5_sign 187 = .ok (.invokevirtual 127, 3) := by decide +kernel
theorem dX5_sign_190 : decode cX5_sign 190 = .ok (.ifCond .ne 6, 3) := by decide +kernel
theorem dX5_sign_193 : decode cX5_sign 193 = .ok (.bipush (-5), 2) := by decide +kernel
theorem dX5_sign_195 : decode cX5_sign 195 = .ok (.ireturn, 1) := by decide +kernel
theorem dX5_sign_196 : decode cX5_sign 196 = .ok (.iinc 7 1, 3) := by decide +kernel
theorem dX5_sign_199 : decode cX5_sign 199 = .ok (.goto (-39), 3) := by decide +kernel
theorem dX5_sign_202 : decode cX5_sign 202 = .ok (.aload_n 0, 1) := by decide +kernel
theorem dX5_sign_203 : decode cX5_sign 203 = .ok (.iload_n 1, 1) := by decide +kernel
theorem dX5_sign_204 : decode cX5_sign 204 = .ok (.iload_n 3, 1) := by decide +kernel
theorem dX5_sign_205 : decode cX5_sign 205 = .ok (.iload_n 2, 1) := by decide +kernel
theorem dX5_sign_206 : decode cX5_sign 206 = .ok (.invokevirtual 127, 3) := by decide +kernel
theorem dX5_sign_209 : decode cX5_sign 209 = .ok (.ifCond .eq 6, 3) := by decide +kernel
theorem dX5_sign_212 : decode cX5_sign 212 = .ok (.bipush (-6), 2) := by decide +kernel
theorem dX5_sign_214 : decode cX5_sign 214 = .ok (.ireturn, 1) := by decide +kernel
theorem dX5_sign_215 : decode cX5_sign 215 = .ok (.aload_n 0, 1) := by decide +kernel
theorem dX5_sign_216 : decode cX5_sign 216 = .ok (.getfield 117, 3) := by decide +kernel
theorem dX5_sign_219 : decode cX5_sign 219 = .ok (.sipush 400, 3) := by decide +kernel
theorem dX5_sign_222 : decode cX5_sign 222 = .ok (.if_icmp .ne 6, 3) := by decide +kernel
theorem dX5_sign_225 : decode cX5_sign 225 = .ok (.bipush (-2), 2) := by decide +kernel
theorem dX5_sign_227 : decode cX5_sign 227 = .ok (.ireturn, 1) := by decide +kernel
theorem dX5_sign_228 : decode cX5_sign 228 = .ok (.aload_n 0, 1) := by decide +kernel
theorem dX5_sign_229 : decode cX5_sign 229 = .ok (.getfield 47, 3) := by decide +kernel
theorem dX5_sign_232 : decode cX5_sign 232 = .ok (.aload_n 0, 1) := by decide +kernel
theorem dX5_sign_233 : decode cX5_sign 233 = .ok (.getfield 117, 3) := by decide +kernel
theorem dX5_sign_236 : decode cX5_sign 236 = .ok (.iload_n 1, 1) := by decide +kernel
theorem dX5_sign_237 : decode cX5_sign 237 = .ok (.iastore, 1) := by decide +kernel
theorem dX5_sign_238 : decode cX5_sign 238 = .ok (.aload_n 0, 1) := by decide +kernel
theorem dX5_sign_239 : decode cX5_sign 239 = .ok (.getfield 50, 3) := by decide +kernel
theorem dX5_sign_242 : decode cX5_sign 242 = .ok (.aload_n 0, 1) := by decide +kernel
theorem dX5_sign_243 : decode cX5_sign 243 = .ok (.getfield 117, 3) := by decide +kernel
theorem dX5_sign_246 : decode cX5_sign 246 = .ok (.iload_n 2, 1) := by decide +kernel
theorem dX5_sign_247 : decode cX5_sign 247 = .ok (.iastore, 1) := by decide +kernel
theorem dX5_sign_248 : decode cX5_sign 248 = .ok (.aload_n 0, 1) := by decide +kernel
theorem dX5_sign_249 : decode cX5_sign 249 = .ok (.getfield 53, 3) := by decide +kernel
theorem dX5_sign_252 : decode cX5_sign 252 = .ok (.aload_n 0, 1) := by decide +kernel
theorem dX5_sign_253 : decode cX5_sign 253 = .ok (.getfield 117, 3) := by decide +kernel
theorem dX5_sign_256 : decode cX5_sign 256 = .ok (.iload_n 3, 1) := by decide +kernel
theorem dX5_sign_257 : decode cX5_sign 257 = .ok (.iastore, 1) := by decide +kernel
theorem dX5_sign_258 : decode cX5_sign 258 = .ok (.aload_n 0, 1) := by decide +kernel
theorem dX5_sign_259 : decode cX5_sign 259 = .ok (.getfield 29, 3) := by decide +kernel
theorem dX5_sign_262 : decode cX5_sign 262 = .ok (.bipush 8, 2) := by decide +kernel
theorem dX5_sign_264 : decode cX5_sign 264 = .ok (.iload_n 1, 1) := by decide +kernel
theorem dX5_sign_265 : decode cX5_sign 265 = .ok (.imul, 1) := by decide +kernel
theorem dX5_sign_266 : decode cX5_sign 266 = .ok (.aload_n 0, 1) := by decide +kernel
theorem dX5_sign_267 : decode cX5_sign 267 = .ok (.getfield 56, 3) := by decide +kernel
theorem dX5_sign_270 : decode cX5_sign 270 = .ok (.bipush 8, 2) := by decide +kernel
theorem dX5_sign_272 : decode cX5_sign 272 = .ok (.aload_n 0, 1) := by decide +kernel
theorem dX5_sign_273 : decode cX5_sign 273 = .ok (.getfield 117, 3) := by decide +kernel
theorem dX5_sign_276 : decode cX5_sign 276 = .ok (.imul, 1) := by decide +kernel
theorem dX5_sign_277 : decode cX5_sign 277 = .ok (.bipush 8, 2) := by decide +kernel
theorem dX5_sign_279 : decode cX5_sign 279 = .ok (.invokestatic 131, 3) := by decide +kernel
theorem dX5_sign_282 : decode cX5_sign 282 = .ok (.aload_n 0, 1) := by decide +kernel
theorem dX5_sign_283 : decode cX5_sign 283 = .ok (.lload 4, 2) := by decide +kernel
theorem dX5_sign_285 : decode cX5_sign 285 = .ok (.putfield 123, 3) := by decide +kernel
theorem dX5_sign_288 : decode cX5_sign 288 = .ok (.aload_n 0, 1) := by decide +kernel
theorem dX5_sign_289 : decode cX5_sign 289 = .ok (.dup, 1) := by decide +kernel
theorem dX5_sign_290 : decode cX5_sign 290 = .ok (.getfield 117, 3) := by decide +kernel
theorem dX5_sign_293 : decode cX5_sign 293 = .ok (.iconst 1, 1) := by decide +kernel
theorem dX5_sign_294 : decode cX5_sign 294 = .ok (.iadd, 1) := by decide +kernel
theorem dX5_sign_295 : decode cX5_sign 295 = .ok (.putfield 117, 3) := by decide +kernel
theorem dX5_sign_298 : decode cX5_sign 298 = .ok (.aload_n 0, 1) := by decide +kernel
theorem dX5_sign_299 : decode cX5_sign 299 = .ok (.getfield 117, 3) := by decide +kernel
theorem dX5_sign_302 : decode cX5_sign 302 = .ok (.iconst 1, 1) := by decide +kernel
theorem dX5_sign_303 : decode cX5_sign 303 = .ok (.isub, 1) := by decide +kernel
theorem dX5_sign_304 : decode cX5_sign 304 = .ok (.ireturn, 1) := by decide +kernel
theorem dX5_holds_0 : decode cX5_holds 0 = .ok (.aload_n 0, 1) := by decide +kernel
theorem dX5_holds_1 : decode cX5_holds 1 = .ok (.iconst 0, 1) := by decide +kernel
theorem dX5_holds_2 : decode cX5_holds 2 = .ok (.putfield 84, 3) := by decide +kernel
theorem dX5_holds_5 : decode cX5_holds 5 = .ok (.iload_n 1, 1) := by decide +kernel
theorem dX5_holds_6 : decode cX5_holds 6 = .ok (.ifCond .lt 23, 3) := by decide +kernel
theorem dX5_holds_9 : decode cX5_holds 9 = .ok (.iload_n 1, 1) := by decide +kernel
theorem dX5_holds_10 : decode cX5_holds 10 = .ok (.aload_n 0, 1) := by decide +kernel
theorem dX5_holds_11 : decode cX5_holds 11 = .ok (.getfield 117, 3) := by decide +kernel
theorem dX5_holds_14 : decode cX5_holds 14 = .ok (.if_icmp .ge 15, 3) := by decide +kernel
theorem dX5_holds_17 : decode cX5_holds 17 = .ok (.aload_n 0, 1) := by decide +kernel
theorem dX5_holds_18 : decode cX5_holds 18 = .ok (.iload_n 1, 1) := by decide +kernel
theorem dX5_holds_19 : decode cX5_holds 19 = .ok (.invokevirtual 120, 3) := by decide +kernel
theorem dX5_holds_22 : decode cX5_holds 22 = .ok (.ifCond .eq 7, 3) := by decide +kernel
theorem dX5_holds_25 : decode cX5_holds 25 = .ok (.iconst 1, 1) := by decide +kernel
theorem dX5_holds_26 : decode cX5_holds 26 = .ok (.goto 4, 3) := by decide +kernel
theorem dX5_holds_29 : decode cX5_holds 29 = .ok (.iconst 0, 1) := by decide +kernel
theorem dX5_holds_30 : decode cX5_holds 30 = .ok (.ireturn, 1) := by decide +kernel
theorem dX5_withdraw_0 : decode cX5_withdraw 0 = .ok (.aload_n 0, 1) := by decide +kernel
theorem dX5_withdraw_1 : decode cX5_withdraw 1 = .ok (.iconst 0, 1) := by decide +kernel
theorem dX5_withdraw_2 : decode cX5_withdraw 2 = .ok (.putfield 84, 3) := by decide +kernel
theorem dX5_withdraw_5 : decode cX5_withdraw 5 = .ok (.iload_n 1, 1) := by decide +kernel
theorem dX5_withdraw_6 : decode cX5_withdraw 6 = .ok (.ifCond .lt 20, 3) := by decide +kernel
theorem dX5_withdraw_9 : decode cX5_withdraw 9 = .ok (.iload_n 1, 1) := by decide +kernel
theorem dX5_withdraw_10 : decode cX5_withdraw 10 = .ok (.aload_n 0, 1) := by decide +kernel
theorem dX5_withdraw_11 : decode cX5_withdraw 11 = .ok (.getfield 117, 3) := by decide +kernel
theorem dX5_withdraw_14 : decode cX5_withdraw 14 = .ok (.if_icmp .ge 12, 3) := by decide +kernel
theorem dX5_withdraw_17 : decode cX5_withdraw 17 = .ok (.aload_n 0, 1) := by decide +kernel
theorem dX5_withdraw_18 : decode cX5_withdraw 18 = .ok (.getfield 59, 3) := by decide +kernel
theorem dX5_withdraw_21 : decode cX5_withdraw 21 = .ok (.iload_n 1, 1) := by decide +kernel
theorem dX5_withdraw_22 : decode cX5_withdraw 22 = .ok (.baload, 1) := by decide +kernel
theorem dX5_withdraw_23 : decode cX5_withdraw 23 = .ok (.ifCond .eq 5, 3) := by decide +kernel
theorem dX5_withdraw_26 : decode cX5_withdraw 26 = .ok (.iconst 0, 1) := by decide +kernel
theorem dX5_withdraw_27 : decode cX5_withdraw 27 = .ok (.ireturn, 1) := by decide +kernel
theorem dX5_withdraw_28 : decode cX5_withdraw 28 = .ok (.aload_n 0, 1) := by decide +kernel
theorem dX5_withdraw_29 : decode cX5_withdraw 29 = .ok (.getfield 59, 3) := by decide +kernel
theorem dX5_withdraw_32 : decode cX5_withdraw 32 = .ok (.iload_n 1, 1) := by decide +kernel
theorem dX5_withdraw_33 : decode cX5_withdraw 33 = .ok (.iconst 1, 1) := by decide +kernel
theorem dX5_withdraw_34 : decode cX5_withdraw 34 = .ok (.bastore, 1) := by decide +kernel
theorem dX5_withdraw_35 : decode cX5_withdraw 35 = .ok (.aload_n 0, 1) := by decide +kernel
theorem dX5_withdraw_36 : decode cX5_withdraw 36 = .ok (.getfield 63, 3) := by decide +kernel
theorem dX5_withdraw_39 : decode cX5_withdraw 39 = .ok (.aload_n 0, 1) := by decide +kernel
theorem dX5_withdraw_40 : decode cX5_withdraw 40 = .ok (.getfield 137, 3) := by decide +kernel
theorem dX5_withdraw_43 : decode cX5_withdraw 43 = .ok (.iload_n 1, 1) := by decide +kernel
theorem dX5_withdraw_44 : decode cX5_withdraw 44 = .ok (.iastore, 1) := by decide +kernel
theorem dX5_withdraw_45 : decode cX5_withdraw 45 = .ok (.aload_n 0, 1) := by decide +kernel
theorem dX5_withdraw_46 : decode cX5_withdraw 46 = .ok (.dup, 1) := by decide +kernel
theorem dX5_withdraw_47 : decode cX5_withdraw 47 = .ok (.getfield 137, 3) := by decide +kernel
theorem dX5_withdraw_50 : decode cX5_withdraw 50 = .ok (.iconst 1, 1) := by decide +kernel
theorem dX5_withdraw_51 : decode cX5_withdraw 51 = .ok (.iadd, 1) := by decide +kernel
theorem dX5_withdraw_52 : decode cX5_withdraw 52 = .ok (.putfield 137, 3) := by decide +kernel
theorem dX5_withdraw_55 : decode cX5_withdraw 55 = .ok (.iconst 1, 1) := by decide +kernel
theorem dX5_withdraw_56 : decode cX5_withdraw 56 = .ok (.ireturn, 1) := by decide +kernel
theorem dX5_comes_0 : decode cX5_comes 0 = .ok (.aload_n 0, 1) := by decide +kernel
theorem dX5_comes_1 : decode cX5_comes 1 = .ok (.getfield 66, 3) := by decide +kernel
theorem dX5_comes_4 : decode cX5_comes 4 = .ok (.bipush 10, 2) := by decide +kernel
theorem dX5_comes_6 : decode cX5_comes 6 = .ok (.iload_n 1, 1) := by decide +kernel
theorem dX5_comes_7 : decode cX5_comes 7 = .ok (.imul, 1) := by decide +kernel
theorem dX5_comes_8 : decode cX5_comes 8 = .ok (.iload_n 2, 1) := by decide +kernel
theorem dX5_comes_9 : decode cX5_comes 9 = .ok (.iadd, 1) := by decide +kernel
theorem dX5_comes_10 : decode cX5_comes 10 = .ok (.baload, 1) := by decide +kernel
theorem dX5_comes_11 : decode cX5_comes 11 = .ok (.istore 4, 2) := by decide +kernel
theorem dX5_comes_13 : decode cX5_comes 13 = .ok (.iconst 0, 1) := by decide +kernel
theorem dX5_comes_14 : decode cX5_comes 14 = .ok (.istore 5, 2) := by decide +kernel
theorem dX5_comes_16 : decode cX5_comes 16 = .ok (.iload 5, 2) := by decide +kernel
theorem dX5_comes_18 : decode cX5_comes 18 = .ok (.bipush 10, 2) := by decide +kernel
theorem dX5_comes_20 : decode cX5_comes 20 = .ok (.if_icmp .ge 53, 3) := by decide +kernel
theorem dX5_comes_23 : decode cX5_comes 23 = .ok (.iload 4, 2) := by decide +kernel
theorem dX5_comes_25 : decode cX5_comes 25 = .ok (.ifCond .ne 48, 3) := by decide +kernel
theorem dX5_comes_28 : decode cX5_comes 28 = .ok (.iload_n 3, 1) := by decide +kernel
theorem dX5_comes_29 : decode cX5_comes 29 = .ok (.ifCond .le 44, 3) := by decide +kernel
theorem dX5_comes_32 : decode cX5_comes 32 = .ok (.aload_n 0, 1) := by decide +kernel
theorem dX5_comes_33 : decode cX5_comes 33 = .ok (.getfield 66, 3) := by decide +kernel
theorem dX5_comes_36 : decode cX5_comes 36 = .ok (.bipush 10, 2) := by decide +kernel
theorem dX5_comes_38 : decode cX5_comes 38 = .ok (.iload_n 1, 1) := by decide +kernel
theorem dX5_comes_39 : decode cX5_comes 39 = .ok (.imul, 1) := by decide +kernel
theorem dX5_comes_40 : decode cX5_comes 40 = .ok (.iload 5, 2) := by decide +kernel
theorem dX5_comes_42 : decode cX5_comes 42 = .ok (.iadd, 1) := by decide +kernel
theorem dX5_comes_43 : decode cX5_comes 43 = .ok (.baload, 1) := by decide +kernel
theorem dX5_comes_44 : decode cX5_comes 44 = .ok (.ifCond .eq 20, 3) := by decide +kernel
theorem dX5_comes_47 : decode cX5_comes 47 = .ok (.aload_n 0, 1) := by decide +kernel
theorem dX5_comes_48 : decode cX5_comes 48 = .ok (.iload 5, 2) := by decide +kernel
theorem dX5_comes_50 : decode cX5_comes 50 = .ok (.iload_n 2, 1) := by decide +kernel
theorem dX5_comes_51 : decode cX5_comes 51 = .ok (.iload_n 3, 1) := by decide +kernel
theorem dX5_comes_52 : decode cX5_comes 52 = .ok (.iconst 1, 1) := by decide +kernel
theorem dX5_comes_53 : decode cX5_comes 53 = .ok (.isub, 1) := by decide +kernel
theorem dX5_comes_54 : decode cX5_comes 54 = .ok (.invokevirtual 140, 3) := by decide +kernel
theorem dX5_comes_57 : decode cX5_comes 57 = .ok (.ifCond .eq 7, 3) := by decide +kernel
theorem dX5_comes_60 : decode cX5_comes 60 = .ok (.iconst 1, 1) := by decide +kernel
theorem dX5_comes_61 : decode cX5_comes 61 = .ok (.goto 4, 3) := by decide +kernel
theorem dX5_comes_64 : decode cX5_comes 64 = .ok (.iconst 0, 1) := by decide +kernel
theorem dX5_comes_65 : decode cX5_comes 65 = .ok (.istore 4, 2) := by decide +kernel
theorem dX5_comes_67 : decode cX5_comes 67 = .ok (.iinc 5 1, 3) := by decide +kernel
theorem dX5_comes_70 : decode cX5_comes 70 = .ok (.goto (-54), 3) := by decide +kernel
theorem dX5_comes_73 : decode cX5_comes 73 = .ok (.iload 4, 2) := by decide +kernel
theorem dX5_comes_75 : decode cX5_comes 75 = .ok (.ireturn, 1) := by decide +kernel
theorem dX5_order_0 : decode cX5_order 0 = .ok (.aload_n 0, 1) := by decide +kernel
theorem dX5_order_1 : decode cX5_order 1 = .ok (.iconst 0, 1) := by decide +kernel
theorem dX5_order_2 : decode cX5_order 2 = .ok (.putfield 84, 3) := by decide +kernel
theorem dX5_order_5 : decode cX5_order 5 = .ok (.iload_n 1, 1) := by decide +kernel
theorem dX5_order_6 : decode cX5_order 6 = .ok (.invokestatic 100, 3) := by decide +kernel
theorem dX5_order_9 : decode cX5_order 9 = .ok (.ifCond .eq 40, 3) := by decide +kernel
theorem dX5_order_12 : decode cX5_order 12 = .ok (.iload_n 2, 1) := by decide +kernel
theorem dX5_order_13 : decode cX5_order 13 = .ok (.invokestatic 100, 3) := by decide +kernel
theorem dX5_order_16 : decode cX5_order 16 = .ok (.ifCond .eq 33, 3) := by decide +kernel
theorem dX5_order_19 : decode cX5_order 19 = .ok (.iload_n 1, 1) := by decide +kernel
theorem dX5_order_20 : decode cX5_order 20 = .ok (.iload_n 2, 1) := by decide +kernel
theorem dX5_order_21 : decode cX5_order 21 = .ok (.if_icmp .eq 28, 3) := by decide +kernel
theorem dX5_order_24 : decode cX5_order 24 = .ok (.aload_n 0, 1) := by decide +kernel
theorem dX5_order_25 : decode cX5_order 25 = .ok (.getfield 66, 3) := by decide +kernel
theorem dX5_order_28 : decode cX5_order 28 = .ok (.bipush 10, 2) := by decide +kernel
theorem dX5_order_30 : decode cX5_order 30 = .ok (.iload_n 1, 1) := by decide +kernel
theorem dX5_order_31 : decode cX5_order 31 = .ok (.imul, 1) := by decide +kernel
theorem dX5_order_32 : decode cX5_order 32 = .ok (.iload_n 2, 1) := by decide +kernel
theorem dX5_order_33 : decode cX5_order 33 = .ok (.iadd, 1) := by decide +kernel
theorem dX5_order_34 : decode cX5_order 34 = .ok (.baload, 1) := by decide +kernel
theorem dX5_order_35 : decode cX5_order 35 = .ok (.ifCond .ne 14, 3) := by decide +kernel
theorem dX5_order_38 : decode cX5_order 38 = .ok (.aload_n 0, 1) := by decide +kernel
theorem dX5_order_39 : decode cX5_order 39 = .ok (.iload_n 2, 1) := by decide +kernel
theorem dX5_order_40 : decode cX5_order 40 = .ok (.iload_n 1, 1) := by decide +kernel
theorem dX5_order_41 : decode cX5_order 41 = .ok (.bipush 10, 2) := by decide +kernel
theorem dX5_order_43 : decode cX5_order 43 = .ok (.invokevirtual 140, 3) := by decide +kernel
theorem dX5_order_46 : decode cX5_order 46 = .ok (.ifCond .eq 5, 3) := by decide +kernel
theorem dX5_order_49 : decode cX5_order 49 = .ok (.iconst 0, 1) := by decide +kernel
theorem dX5_order_50 : decode cX5_order 50 = .ok (.ireturn, 1) := by decide +kernel
theorem dX5_order_51 : decode cX5_order 51 = .ok (.aload_n 0, 1) := by decide +kernel
theorem dX5_order_52 : decode cX5_order 52 = .ok (.getfield 66, 3) := by decide +kernel
theorem dX5_order_55 : decode cX5_order 55 = .ok (.bipush 10, 2) := by decide +kernel
theorem dX5_order_57 : decode cX5_order 57 = .ok (.iload_n 1, 1) := by decide +kernel
theorem dX5_order_58 : decode cX5_order 58 = .ok (.imul, 1) := by decide +kernel
theorem dX5_order_59 : decode cX5_order 59 = .ok (.iload_n 2, 1) := by decide +kernel
theorem dX5_order_60 : decode cX5_order 60 = .ok (.iadd, 1) := by decide +kernel
theorem dX5_order_61 : decode cX5_order 61 = .ok (.iconst 1, 1) := by decide +kernel
theorem dX5_order_62 : decode cX5_order 62 = .ok (.bastore, 1) := by decide +kernel
theorem dX5_order_63 : decode cX5_order 63 = .ok (.iconst 1, 1) := by decide +kernel
theorem dX5_order_64 : decode cX5_order 64 = .ok (.ireturn, 1) := by decide +kernel
theorem dX5_complete_0 : decode cX5_complete 0 = .ok (.aload_n 0, 1) := by decide +kernel
theorem dX5_complete_1 : decode cX5_complete 1 = .ok (.iconst 0, 1) := by decide +kernel
theorem dX5_complete_2 : decode cX5_complete 2 = .ok (.putfield 84, 3) := by decide +kernel
theorem dX5_complete_5 : decode cX5_complete 5 = .ok (.aload_n 0, 1) := by decide +kernel
theorem dX5_complete_6 : decode cX5_complete 6 = .ok (.iload_n 1, 1) := by decide +kernel
theorem dX5_complete_7 : decode cX5_complete 7 = .ok (.invokevirtual 114, 3) := by decide +kernel
theorem dX5_complete_10 : decode cX5_complete 10 = .ok (.ifCond .ne 5, 3) := by decide +kernel
theorem dX5_complete_13 : decode cX5_complete 13 = .ok (.iconst (-1), 1) := by decide +kernel
theorem dX5_complete_14 : decode cX5_complete 14 = .ok (.ireturn, 1) := by decide +kernel
theorem dX5_complete_15 : decode cX5_complete 15 = .ok (.iconst 0, 1) := by decide +kernel
theorem dX5_complete_16 : decode cX5_complete 16 = .ok (.istore_n 2, 1) := by decide +kernel
theorem dX5_complete_17 : decode cX5_complete 17 = .ok (.iload_n 2, 1) := by decide +kernel
theorem dX5_complete_18 : decode cX5_complete 18 = .ok (.aload_n 0, 1) := by decide +kernel
theorem dX5_complete_19 : decode cX5_complete 19 = .ok (.getfield 41, 3) := by decide +kernel
theorem dX5_complete_22 : decode cX5_complete 22 = .ok (.iload_n 1, 1) := by decide +kernel
theorem dX5_complete_23 : decode cX5_complete 23 = .ok (.iaload, 1) := by decide +kernel
theorem dX5_complete_24 : decode cX5_complete 24 = .ok (.if_icmp .ge 33, 3) := by decide +kernel
theorem dX5_complete_27 : decode cX5_complete 27 = .ok (.aload_n 0, 1) := by decide +kernel
theorem dX5_complete_28 : decode cX5_complete 28 = .ok (.iload_n 1, 1) := by decide +kernel
theorem dX5_complete_29 : decode cX5_complete 29 = .ok (.aload_n 0, 1) := by decide +kernel
theorem dX5_complete_30 : decode cX5_complete 30 = .ok (.getfield 44, 3) := by decide +kernel
theorem dX5_complete_33 : decode cX5_complete 33 = .ok (.bipush 10, 2) := by decide +kernel
theorem dX5_complete_35 : decode cX5_complete 35 = .ok (.iload_n 1, 1) := by decide +kernel
theorem dX5_complete_36 : decode cX5_complete 36 = .ok (.imul, 1) := by decide +kernel
theorem dX5_complete_37 : decode cX5_complete 37 = .ok (.iload_n 2, 1) := by decide +kernel
theorem dX5_complete_38 : decode cX5_complete 38 = .ok (.iadd, 1) := by decide +kernel
theorem dX5_complete_39 : decode cX5_complete 39 = .ok (.iaload, 1) := by decide +kernel
theorem dX5_complete_40 : decode cX5_complete 40 = .ok (.iconst (-1), 1) := by decide +kernel
theorem dX5_complete_41 : decode cX5_complete 41 = .ok (.invokevirtual 127, 3) := by decide +kernel
theorem dX5_complete_44 : decode cX5_complete 44 = .ok (.ifCond .ne 7, 3) := by decide +kernel
theorem dX5_complete_47 : decode cX5_complete 47 = .ok (.iconst 1, 1) := by decide +kernel
theorem dX5_complete_48 : decode cX5_complete 48 = .ok (.iload_n 2, 1) := by decide +kernel
theorem dX5_complete_49 : decode cX5_complete 49 = .ok (.iadd, 1) := by decide +kernel
theorem dX5_complete_50 : decode cX5_complete 50 = .ok (.ireturn, 1) := by decide +kernel
theorem dX5_complete_51 : decode cX5_complete 51 = .ok (.iinc 2 1, 3) := by decide +kernel
theorem dX5_complete_54 : decode cX5_complete 54 = .ok (.goto (-37), 3) := by decide +kernel
theorem dX5_complete_57 : decode cX5_complete 57 = .ok (.iconst 0, 1) := by decide +kernel
theorem dX5_complete_58 : decode cX5_complete 58 = .ok (.ireturn, 1) := by decide +kernel
theorem dX5_comment_0 : decode cX5_comment 0 = .ok (.aload_n 0, 1) := by decide +kernel
theorem dX5_comment_1 : decode cX5_comment 1 = .ok (.iconst 0, 1) := by decide +kernel
theorem dX5_comment_2 : decode cX5_comment 2 = .ok (.putfield 84, 3) := by decide +kernel
theorem dX5_comment_5 : decode cX5_comment 5 = .ok (.aload_n 0, 1) := by decide +kernel
theorem dX5_comment_6 : decode cX5_comment 6 = .ok (.iload_n 1, 1) := by decide +kernel
theorem dX5_comment_7 : decode cX5_comment 7 = .ok (.invokevirtual 114, 3) := by decide +kernel
theorem dX5_comment_10 : decode cX5_comment 10 = .ok (.ifCond .eq 42, 3) := by decide +kernel
theorem dX5_comment_13 : decode cX5_comment 13 = .ok (.iload_n 2, 1) := by decide +kernel
theorem dX5_comment_14 : decode cX5_comment 14 = .ok (.ifCond .lt 38, 3) := by decide +kernel
theorem dX5_comment_17 : decode cX5_comment 17 = .ok (.iload_n 2, 1) := by decide +kernel
theorem dX5_comment_18 : decode cX5_comment 18 = .ok (.sipush 255, 3) := by decide +kernel
theorem dX5_comment_21 : decode cX5_comment 21 = .ok (.if_icmp .gt 31, 3) := by decide +kernel
theorem dX5_comment_24 : decode cX5_comment 24 = .ok (.lload_n 3, 1) := by decide +kernel
theorem dX5_comment_25 : decode cX5_comment 25 = .ok (.invokestatic 103, 3) := by decide +kernel
theorem dX5_comment_28 : decode cX5_comment 28 = .ok (.ifCond .eq 24, 3) := by decide +kernel
theorem dX5_comment_31 : decode cX5_comment 31 = .ok (.lload_n 3, 1) := by decide +kernel
theorem dX5_comment_32 : decode cX5_comment 32 = .ok (.aload_n 0, 1) := by decide +kernel
theorem dX5_comment_33 : decode cX5_comment 33 = .ok (.getfield 123, 3) := by decide +kernel
theorem dX5_comment_36 : decode cX5_comment 36 = .ok (.lcmp, 1) := by decide +kernel
theorem dX5_comment_37 : decode cX5_comment 37 = .ok (.ifCond .lt 15, 3) := by decide +kernel
theorem dX5_comment_40 : decode cX5_comment 40 = .ok (.aload_n 0, 1) := by decide +kernel
theorem dX5_comment_41 : decode cX5_comment 41 = .ok (.getfield 35, 3) := by decide +kernel
theorem dX5_comment_44 : decode cX5_comment 44 = .ok (.iload_n 1, 1) := by decide +kernel
theorem dX5_comment_45 : decode cX5_comment 45 = .ok (.iaload, 1) := by decide +kernel
theorem dX5_comment_46 : decode cX5_comment 46 = .ok (.sipush 200, 3) := by decide +kernel
theorem dX5_comment_49 : decode cX5_comment 49 = .ok (.if_icmp .ne 5, 3) := by decide +kernel
theorem dX5_comment_52 : decode cX5_comment 52 = .ok (.iconst 0, 1) := by decide +kernel
theorem dX5_comment_53 : decode cX5_comment 53 = .ok (.ireturn, 1) := by decide +kernel
theorem dX5_comment_54 : decode cX5_comment 54 = .ok (.aload_n 0, 1) := by decide +kernel
theorem dX5_comment_55 : decode cX5_comment 55 = .ok (.getfield 38, 3) := by decide +kernel
theorem dX5_comment_58 : decode cX5_comment 58 = .ok (.sipush 200, 3) := by decide +kernel
theorem dX5_comment_61 : decode cX5_comment 61 = .ok (.iload_n 1, 1) := by decide +kernel
theorem dX5_comment_62 : decode cX5_comment 62 = .ok (.imul, 1) := by decide +kernel
theorem dX5_comment_63 : decode cX5_comment 63 = .ok (.aload_n 0, 1) := by decide +kernel
theorem dX5_comment_64 : decode cX5_comment 64 = .ok (.getfield 35, 3) := by decide +kernel
theorem dX5_comment_67 : decode cX5_comment 67 = .ok (.iload_n 1, 1) := by decide +kernel
theorem dX5_comment_68 : decode cX5_comment 68 = .ok (.iaload, 1) := by decide +kernel
theorem dX5_comment_69 : decode cX5_comment 69 = .ok (.iadd, 1) := by decide +kernel
theorem dX5_comment_70 : decode cX5_comment 70 = .ok (.iload_n 2, 1) := by decide +kernel
theorem dX5_comment_71 : decode cX5_comment 71 = .ok (.iastore, 1) := by decide +kernel
theorem dX5_comment_72 : decode cX5_comment 72 = .ok (.aload_n 0, 1) := by decide +kernel
theorem dX5_comment_73 : decode cX5_comment 73 = .ok (.getfield 35, 3) := by decide +kernel
theorem dX5_comment_76 : decode cX5_comment 76 = .ok (.iload_n 1, 1) := by decide +kernel
theorem dX5_comment_77 : decode cX5_comment 77 = .ok (.dup2, 1) := by decide +kernel
theorem dX5_comment_78 : decode cX5_comment 78 = .ok (.iaload, 1) := by decide +kernel
theorem dX5_comment_79 : decode cX5_comment 79 = .ok (.iconst 1, 1) := by decide +kernel
theorem dX5_comment_80 : decode cX5_comment 80 = .ok (.iadd, 1) := by decide +kernel
theorem dX5_comment_81 : decode cX5_comment 81 = .ok (.iastore, 1) := by decide +kernel
theorem dX5_comment_82 : decode cX5_comment 82 = .ok (.aload_n 0, 1) := by decide +kernel
theorem dX5_comment_83 : decode cX5_comment 83 = .ok (.lload_n 3, 1) := by decide +kernel
theorem dX5_comment_84 : decode cX5_comment 84 = .ok (.putfield 123, 3) := by decide +kernel
theorem dX5_comment_87 : decode cX5_comment 87 = .ok (.iconst 1, 1) := by decide +kernel
theorem dX5_comment_88 : decode cX5_comment 88 = .ok (.ireturn, 1) := by decide +kernel
theorem dX5_root_0 : decode cX5_root 0 = .ok (.iload_n 0, 1) := by decide +kernel
theorem dX5_root_1 : decode cX5_root 1 = .ok (.i2d, 1) := by decide +kernel
theorem dX5_root_2 : decode cX5_root 2 = .ok (.dstore_n 2, 1) := by decide +kernel
theorem dX5_root_3 : decode cX5_root 3 = .ok (.iconst 0, 1) := by decide +kernel
theorem dX5_root_4 : decode cX5_root 4 = .ok (.istore 4, 2) := by decide +kernel
theorem dX5_root_6 : decode cX5_root 6 = .ok (.iload 4, 2) := by decide +kernel
theorem dX5_root_8 : decode cX5_root 8 = .ok (.bipush 40, 2) := by decide +kernel
theorem dX5_root_10 : decode cX5_root 10 = .ok (.if_icmp .ge 41, 3) := by decide +kernel
theorem dX5_root_13 : decode cX5_root 13 = .ok (.iload_n 1, 1) := by decide +kernel
theorem dX5_root_14 : decode cX5_root 14 = .ok (.ifCond .eq 20, 3) := by decide +kernel
theorem dX5_root_17 : decode cX5_root 17 = .ok (.dload_n 2, 1) := by decide +kernel
theorem dX5_root_18 : decode cX5_root 18 = .ok (.dload_n 2, 1) := by decide +kernel
theorem dX5_root_19 : decode cX5_root 19 = .ok (.dadd, 1) := by decide +kernel
theorem dX5_root_20 : decode cX5_root 20 = .ok (.iload_n 0, 1) := by decide +kernel
theorem dX5_root_21 : decode cX5_root 21 = .ok (.i2d, 1) := by decide +kernel
theorem dX5_root_22 : decode cX5_root 22 = .ok (.dload_n 2, 1) := by decide +kernel
theorem dX5_root_23 : decode cX5_root 23 = .ok (.dload_n 2, 1) := by decide +kernel
theorem dX5_root_24 : decode cX5_root 24 = .ok (.dmul, 1) := by decide +kernel
theorem dX5_root_25 : decode cX5_root 25 = .ok (.ddiv, 1) := by decide +kernel
theorem dX5_root_26 : decode cX5_root 26 = .ok (.dadd, 1) := by decide +kernel
theorem dX5_root_27 : decode cX5_root 27 = .ok (.ldc2_w 143, 3) := by decide +kernel
theorem dX5_root_30 : decode cX5_root 30 = .ok (.ddiv, 1) := by decide +kernel
theorem dX5_root_31 : decode cX5_root 31 = .ok (.goto 13, 3) := by decide +kernel
theorem dX5_root_34 : decode cX5_root 34 = .ok (.dload_n 2, 1) := by decide +kernel
theorem dX5_root_35 : decode cX5_root 35 = .ok (.iload_n 0, 1) := by decide +kernel
theorem dX5_root_36 : decode cX5_root 36 = .ok (.i2d, 1) := by decide +kernel
theorem dX5_root_37 : decode cX5_root 37 = .ok (.dload_n 2, 1) := by decide +kernel
theorem dX5_root_38 : decode cX5_root 38 = .ok (.ddiv, 1) := by decide +kernel
theorem dX5_root_39 : decode cX5_root 39 = .ok (.dadd, 1) := by decide +kernel
theorem dX5_root_40 : decode cX5_root 40 = .ok (.ldc2_w 145, 3) := by decide +kernel
theorem dX5_root_43 : decode cX5_root 43 = .ok (.ddiv, 1) := by decide +kernel
theorem dX5_root_44 : decode cX5_root 44 = .ok (.dstore_n 2, 1) := by decide +kernel
theorem dX5_root_45 : decode cX5_root 45 = .ok (.iinc 4 1, 3) := by decide +kernel
theorem dX5_root_48 : decode cX5_root 48 = .ok (.goto (-42), 3) := by decide +kernel
theorem dX5_root_51 : decode cX5_root 51 = .ok (.dload_n 2, 1) := by decide +kernel
theorem dX5_root_52 : decode cX5_root 52 = .ok (.d2l, 1) := by decide +kernel
theorem dX5_root_53 : decode cX5_root 53 = .ok (.lstore 4, 2) := by decide +kernel
theorem dX5_root_55 : decode cX5_root 55 = .ok (.dload_n 2, 1) := by decide +kernel
theorem dX5_root_56 : decode cX5_root 56 = .ok (.lload 4, 2) := by decide +kernel
theorem dX5_root_58 : decode cX5_root 58 = .ok (.l2d, 1) := by decide +kernel
theorem dX5_root_59 : decode cX5_root 59 = .ok (.dsub, 1) := by decide +kernel
theorem dX5_root_60 : decode cX5_root 60 = .ok (.ldc2_w 147, 3) := by decide +kernel
theorem dX5_root_63 : decode cX5_root 63 = .ok (.dmul, 1) := by decide +kernel
theorem dX5_root_64 : decode cX5_root 64 = .ok (.d2l, 1) := by decide +kernel
theorem dX5_root_65 : decode cX5_root 65 = .ok (.l2i, 1) := by decide +kernel
theorem dX5_root_66 : decode cX5_root 66 = .ok (.ireturn, 1) := by decide +kernel
theorem dX5_prepare_0 : decode cX5_prepare 0 = .ok (.iconst 0, 1) := by decide +kernel
theorem dX5_prepare_1 : decode cX5_prepare 1 = .ok (.istore_n 1, 1) := by decide +kernel
theorem dX5_prepare_2 : decode cX5_prepare 2 = .ok (.iconst 2, 1) := by decide +kernel
theorem dX5_prepare_3 : decode cX5_prepare 3 = .ok (.istore_n 2, 1) := by decide +kernel
theorem dX5_prepare_4 : decode cX5_prepare 4 = .ok (.iload_n 1, 1) := by decide +kernel
theorem dX5_prepare_5 : decode cX5_prepare 5 = .ok (.bipush 64, 2) := by decide +kernel
theorem dX5_prepare_7 : decode cX5_prepare 7 = .ok (.if_icmp .ge 81, 3) := by decide +kernel
theorem dX5_prepare_10 : decode cX5_prepare 10 = .ok (.iconst 1, 1) := by decide +kernel
theorem dX5_prepare_11 : decode cX5_prepare 11 = .ok (.istore_n 3, 1) := by decide +kernel
theorem dX5_prepare_12 : decode cX5_prepare 12 = .ok (.iconst 2, 1) := by decide +kernel
theorem dX5_prepare_13 : decode cX5_prepare 13 = .ok (.istore 4, 2) := by decide +kernel
theorem dX5_prepare_15 : decode cX5_prepare 15 = .ok (.iload 4, 2) := by decide +kernel
theorem dX5_prepare_17 : decode cX5_prepare 17 = .ok (.iload 4, 2) := by decide +kernel
theorem dX5_prepare_19 : decode cX5_prepare 19 = .ok (.imul, 1) := by decide +kernel
theorem dX5_prepare_20 : decode cX5_prepare 20 = .ok (.iload_n 2, 1) := by decide +kernel
theorem dX5_prepare_21 : decode cX5_prepare 21 = .ok (.if_icmp .gt 26, 3) := by decide +kernel
theorem dX5_prepare_24 : decode cX5_prepare 24 = .ok (.iload_n 3, 1) := by decide +kernel
theorem dX5_prepare_25 : decode cX5_prepare 25 = .ok (.ifCond .eq 14, 3) := by decide +kernel
theorem dX5_prepare_28 : decode cX5_prepare 28 = .ok (.iload_n 2, 1) := by decide +kernel
theorem dX5_prepare_29 : decode cX5_prepare 29 = .ok (.iload 4, 2) := by decide +kernel
theorem dX5_prepare_31 : decode cX5_prepare 31 = .ok (.irem, 1) := by decide +kernel
theorem dX5_prepare_32 : decode cX5_prepare 32 = .ok (.ifCond .eq 7, 3) := by decide +kernel
theorem dX5_prepare_35 : decode cX5_prepare 35 = .ok (.iconst 1, 1) := by decide +kernel
theorem dX5_prepare_36 : decode cX5_prepare 36 = .ok (.goto 4, 3) := by decide +kernel
theorem dX5_prepare_39 : decode cX5_prepare 39 = .ok (.iconst 0, 1) := by decide +kernel
theorem dX5_prepare_40 : decode cX5_prepare 40 = .ok (.istore_n 3, 1) := by decide +kernel
theorem dX5_prepare_41 : decode cX5_prepare 41 = .ok (.iinc 4 1, 3) := by decide +kernel
theorem dX5_prepare_44 : decode cX5_prepare 44 = .ok (.goto (-29), 3) := by decide +kernel
theorem dX5_prepare_47 : decode cX5_prepare 47 = .ok (.iload_n 3, 1) := by decide +kernel
theorem dX5_prepare_48 : decode cX5_prepare 48 = .ok (.ifCond .eq 34, 3) := by decide +kernel
theorem dX5_prepare_51 : decode cX5_prepare 51 = .ok (.aload_n 0, 1) := by decide +kernel
theorem dX5_prepare_52 : decode cX5_prepare 52 = .ok (.getfield 69, 3) := by decide +kernel
theorem dX5_prepare_55 : decode cX5_prepare 55 = .ok (.iload_n 1, 1) := by decide +kernel
theorem dX5_prepare_56 : decode cX5_prepare 56 = .ok (.iload_n 2, 1) := by decide +kernel
theorem dX5_prepare_57 : decode cX5_prepare 57 = .ok (.iconst 1, 1) := by decide +kernel
theorem dX5_prepare_58 : decode cX5_prepare 58 = .ok (.invokestatic 149, 3) := by decide +kernel
theorem dX5_prepare_61 : decode cX5_prepare 61 = .ok (.iastore, 1) := by decide +kernel
theorem dX5_prepare_62 : decode cX5_prepare 62 = .ok (.iload_n 1, 1) := by decide +kernel
theorem dX5_prepare_63 : decode cX5_prepare 63 = .ok (.bipush 8, 2) := by decide +kernel
theorem dX5_prepare_65 : decode cX5_prepare 65 = .ok (.if_icmp .ge 14, 3) := by decide +kernel
theorem dX5_prepare_68 : decode cX5_prepare 68 = .ok (.aload_n 0, 1) := by decide +kernel
theorem dX5_prepare_69 : decode cX5_prepare 69 = .ok (.getfield 72, 3) := by decide +kernel
theorem dX5_prepare_72 : decode cX5_prepare 72 = .ok (.iload_n 1, 1) := by decide +kernel
theorem dX5_prepare_73 : decode cX5_prepare 73 = .ok (.iload_n 2, 1) := by decide +kernel
theorem dX5_prepare_74 : decode cX5_prepare 74 = .ok (.iconst 0, 1) := by decide +kernel
theorem dX5_prepare_75 : decode cX5_prepare 75 = .ok (.invokestatic 149, 3) := by decide +kernel
theorem dX5_prepare_78 : decode cX5_prepare 78 = .ok (.iastore, 1) := by decide +kernel
theorem dX5_prepare_79 : decode cX5_prepare 79 = .ok (.iinc 1 1, 3) := by decide +kernel
theorem dX5_prepare_82 : decode cX5_prepare 82 = .ok (.iinc 2 1, 3) := by decide +kernel
theorem dX5_prepare_85 : decode cX5_prepare 85 = .ok (.goto (-81), 3) := by decide +kernel
theorem dX5_prepare_88 : decode cX5_prepare 88 = .ok (.aload_n 0, 1) := by decide +kernel
theorem dX5_prepare_89 : decode cX5_prepare 89 = .ok (.iconst 1, 1) := by decide +kernel
theorem dX5_prepare_90 : decode cX5_prepare 90 = .ok (.putfield 153, 3) := by decide +kernel
theorem dX5_prepare_93 : decode cX5_prepare 93 = .ok (.return_, 1) := by decide +kernel
theorem dX5_turn_0 : decode cX5_turn 0 = .ok (.iload_n 0, 1) := by decide +kernel
theorem dX5_turn_1 : decode cX5_turn 1 = .ok (.iload_n 1, 1) := by decide +kernel
theorem dX5_turn_2 : decode cX5_turn 2 = .ok (.iushr, 1) := by decide +kernel
theorem dX5_turn_3 : decode cX5_turn 3 = .ok (.iload_n 0, 1) := by decide +kernel
theorem dX5_turn_4 : decode cX5_turn 4 = .ok (.bipush 32, 2) := by decide +kernel
theorem dX5_turn_6 : decode cX5_turn 6 = .ok (.iload_n 1, 1) := by decide +kernel
theorem dX5_turn_7 : decode cX5_turn 7 = .ok (.isub, 1) := by decide +kernel
theorem dX5_turn_8 : decode cX5_turn 8 = .ok (.ishl, 1) := by decide +kernel
theorem dX5_turn_9 : decode cX5_turn 9 = .ok (.ior, 1) := by decide +kernel
theorem dX5_turn_10 : decode cX5_turn 10 = .ok (.ireturn, 1) := by decide +kernel
theorem dX5_padded_0 : decode cX5_padded 0 = .ok (.aload_n 0, 1) := by decide +kernel
theorem dX5_padded_1 : decode cX5_padded 1 = .ok (.getfield 26, 3) := by decide +kernel
theorem dX5_padded_4 : decode cX5_padded 4 = .ok (.iload_n 1, 1) := by decide +kernel
theorem dX5_padded_5 : decode cX5_padded 5 = .ok (.iaload, 1) := by decide +kernel
theorem dX5_padded_6 : decode cX5_padded 6 = .ok (.istore 4, 2) := by decide +kernel
theorem dX5_padded_8 : decode cX5_padded 8 = .ok (.iload_n 2, 1) := by decide +kernel
theorem dX5_padded_9 : decode cX5_padded 9 = .ok (.iload 4, 2) := by decide +kernel
theorem dX5_padded_11 : decode cX5_padded 11 = .ok (.if_icmp .ge 16, 3) := by decide +kernel
theorem dX5_padded_14 : decode cX5_padded 14 = .ok (.aload_n 0, 1) := by decide +kernel
theorem dX5_padded_15 : decode cX5_padded 15 = .ok (.getfield 32, 3) := by decide +kernel
theorem dX5_padded_18 : decode cX5_padded 18 = .ok (.sipush 1000, 3) := by decide +kernel
theorem dX5_padded_21 : decode cX5_padded 21 = .ok (.iload_n 1, 1) := by decide +kernel
theorem dX5_padded_22 : decode cX5_padded 22 = .ok (.imul, 1) := by decide +kernel
theorem dX5_padded_23 : decode cX5_padded 23 = .ok (.iload_n 2, 1) := by decide +kernel
theorem dX5_padded_24 : decode cX5_padded 24 = .ok (.iadd, 1) := by decide +kernel
theorem dX5_padded_25 : decode cX5_padded 25 = .ok (.iaload, 1) := by decide +kernel
theorem dX5_padded_26 : decode cX5_padded 26 = .ok (.ireturn, 1) := by decide +kernel
theorem dX5_padded_27 : decode cX5_padded 27 = .ok (.bipush 8, 2) := by decide +kernel
theorem dX5_padded_29 : decode cX5_padded 29 = .ok (.iload_n 3, 1) := by decide +kernel
theorem dX5_padded_30 : decode cX5_padded 30 = .ok (.iconst 1, 1) := by decide +kernel
theorem dX5_padded_31 : decode cX5_padded 31 = .ok (.isub, 1) := by decide +kernel
theorem dX5_padded_32 : decode cX5_padded 32 = .ok (.iload_n 2, 1) := by decide +kernel
theorem dX5_padded_33 : decode cX5_padded 33 = .ok (.isub, 1) := by decide +kernel
theorem dX5_padded_34 : decode cX5_padded 34 = .ok (.imul, 1) := by decide +kernel
theorem dX5_padded_35 : decode cX5_padded 35 = .ok (.istore 5, 2) := by decide +kernel
theorem dX5_padded_37 : decode cX5_padded 37 = .ok (.iload_n 2, 1) := by decide +kernel
theorem dX5_padded_38 : decode cX5_padded 38 = .ok (.iload 4, 2) := by decide +kernel
theorem dX5_padded_40 : decode cX5_padded 40 = .ok (.if_icmp .ne 9, 3) := by decide +kernel
theorem dX5_padded_43 : decode cX5_padded 43 = .ok (.sipush 128, 3) := by decide +kernel
theorem dX5_padded_46 : decode cX5_padded 46 = .ok (.goto 26, 3) := by decide +kernel
theorem dX5_padded_49 : decode cX5_padded 49 = .ok (.iload 5, 2) := by decide +kernel
theorem dX5_padded_51 : decode cX5_padded 51 = .ok (.bipush 32, 2) := by decide +kernel
theorem dX5_padded_53 : decode cX5_padded 53 = .ok (.if_icmp .ge 18, 3) := by decide +kernel
theorem dX5_padded_56 : decode cX5_padded 56 = .ok (.bipush 8, 2) := by decide +kernel
theorem dX5_padded_58 : decode cX5_padded 58 = .ok (.iload 4, 2) := by decide +kernel
theorem dX5_padded_60 : decode cX5_padded 60 = .ok (.imul, 1) := by decide +kernel
theorem dX5_padded_61 : decode cX5_padded 61 = .ok (.iload 5, 2) := by decide +kernel
theorem dX5_padded_63 : decode cX5_padded 63 = .ok (.iushr, 1) := by decide +kernel
theorem dX5_padded_64 : decode cX5_padded 64 = .ok (.sipush 255, 3) := by decide +kernel
theorem dX5_padded_67 : decode cX5_padded 67 = .ok (.iand, 1) := by decide +kernel
theorem dX5_padded_68 : decode cX5_padded 68 = .ok (.goto 4, 3) := by decide +kernel
theorem dX5_padded_71 : decode cX5_padded 71 = .ok (.iconst 0, 1) := by decide +kernel
theorem dX5_padded_72 : decode cX5_padded 72 = .ok (.ireturn, 1) := by decide +kernel
theorem dX5_reckon_0 : decode cX5_reckon 0 = .ok (.aload_n 0, 1) := by decide +kernel
theorem dX5_reckon_1 : decode cX5_reckon 1 = .ok (.getfield 153, 3) := by decide +kernel
theorem dX5_reckon_4 : decode cX5_reckon 4 = .ok (.ifCond .ne 7, 3) := by decide +kernel
theorem dX5_reckon_7 : decode cX5_reckon 7 = .ok (.aload_n 0, 1) := by decide +kernel
theorem dX5_reckon_8 : decode cX5_reckon 8 = .ok (.invokevirtual 157, 3) := by decide +kernel
theorem dX5_reckon_11 : decode cX5_reckon 11 = .ok (.aload_n 0, 1) := by decide +kernel
theorem dX5_reckon_12 : decode cX5_reckon 12 = .ok (.getfield 26, 3) := by decide +kernel
theorem dX5_reckon_15 : decode cX5_reckon 15 = .ok (.iload_n 1, 1) := by decide +kernel
theorem dX5_reckon_16 : decode cX5_reckon 16 = .ok (.iaload, 1) := by decide +kernel
theorem dX5_reckon_17 : decode cX5_reckon 17 = .ok (.bipush 9, 2) := by decide +kernel
theorem dX5_reckon_19 : decode cX5_reckon 19 = .ok (.iadd, 1) := by decide +kernel
theorem dX5_reckon_20 : decode cX5_reckon 20 = .ok (.bipush 63, 2) := by decide +kernel
theorem dX5_reckon_22 : decode cX5_reckon 22 = .ok (.iadd, 1) := by decide +kernel
theorem dX5_reckon_23 : decode cX5_reckon 23 = .ok (.bipush 64, 2) := by decide +kernel
theorem dX5_reckon_25 : decode cX5_reckon 25 = .ok (.idiv, 1) := by decide +kernel
theorem dX5_reckon_26 : decode cX5_reckon 26 = .ok (.bipush 64, 2) := by decide +kernel
theorem dX5_reckon_28 : decode cX5_reckon 28 = .ok (.imul, 1) := by decide +kernel
theorem dX5_reckon_29 : decode cX5_reckon 29 = .ok (.istore_n 2, 1) := by decide +kernel
theorem dX5_reckon_30 : decode cX5_reckon 30 = .ok (.aload_n 0, 1) := by decide +kernel
theorem dX5_reckon_31 : decode cX5_reckon 31 = .ok (.getfield 72, 3) := by decide +kernel
theorem dX5_reckon_34 : decode cX5_reckon 34 = .ok (.iconst 0, 1) := by decide +kernel
theorem dX5_reckon_35 : decode cX5_reckon 35 = .ok (.aload_n 0, 1) := by decide +kernel
theorem dX5_reckon_36 : decode cX5_reckon 36 = .ok (.getfield 78, 3) := by decide +kernel
theorem dX5_reckon_39 : decode cX5_reckon 39 = .ok (.iconst 0, 1) := by decide +kernel
theorem dX5_reckon_40 : decode cX5_reckon 40 = .ok (.bipush 8, 2) := by decide +kernel
theorem dX5_reckon_42 : decode cX5_reckon 42 = .ok (.invokestatic 131, 3) := by decide +kernel
theorem dX5_reckon_45 : decode cX5_reckon 45 = .ok (.iconst 0, 1) := by decide +kernel
theorem dX5_reckon_46 : decode cX5_reckon 46 = .ok (.istore_n 3, 1) := by decide +kernel
theorem dX5_reckon_47 : decode cX5_reckon 47 = .ok (.iload_n 3, 1) := by decide +kernel
theorem dX5_reckon_48 : decode cX5_reckon 48 = .ok (.iload_n 2, 1) := by decide +kernel
theorem dX5_reckon_49 : decode cX5_reckon 49 = .ok (.if_icmp .ge 205, 3) := by decide +kernel
theorem dX5_reckon_52 : decode cX5_reckon 52 = .ok (.iconst 0, 1) := by decide +kernel
theorem dX5_reckon_53 : decode cX5_reckon 53 = .ok (.istore 4, 2) := by decide +kernel
theorem dX5_reckon_55 : decode cX5_reckon 55 = .ok (.iload 4, 2) := by decide +kernel
theorem dX5_reckon_57 : decode cX5_reckon 57 = .ok (.bipush 16, 2) := by decide +kernel
theorem dX5_reckon_59 : decode cX5_reckon 59 = .ok (.if_icmp .ge 74, 3) := by decide +kernel
theorem dX5_reckon_62 : decode cX5_reckon 62 = .ok (.iload_n 3, 1) := by decide +kernel
theorem dX5_reckon_63 : decode cX5_reckon 63 = .ok (.iconst 4, 1) := by decide +kernel
theorem dX5_reckon_64 : decode cX5_reckon 64 = .ok (.iload 4, 2) := by decide +kernel
theorem dX5_reckon_66 : decode cX5_reckon 66 = .ok (.imul, 1) := by decide +kernel
theorem dX5_reckon_67 : decode cX5_reckon 67 = .ok (.iadd, 1) := by decide +kernel
theorem dX5_reckon_68 : decode cX5_reckon 68 = .ok (.istore 5, 2) := by decide +kernel
theorem dX5_reckon_70 : decode cX5_reckon 70 = .ok (.aload_n 0, 1) := by decide +kernel
theorem dX5_reckon_71 : decode cX5_reckon 71 = .ok (.getfield 75, 3) := by decide +kernel
theorem dX5_reckon_74 : decode cX5_reckon 74 = .ok (.iload 4, 2) := by decide +kernel
theorem dX5_reckon_76 : decode cX5_reckon 76 = .ok (.aload_n 0, 1) := by decide +kernel
theorem dX5_reckon_77 : decode cX5_reckon 77 = .ok (.iload_n 1, 1) := by decide +kernel
theorem dX5_reckon_78 : decode cX5_reckon 78 = .ok (.iload 5, 2) := by decide +kernel
theorem dX5_reckon_80 : decode cX5_reckon 80 = .ok (.iload_n 2, 1) := by decide +kernel
theorem dX5_reckon_81 : decode cX5_reckon 81 = .ok (.invokevirtual 160, 3) := by decide +kernel
theorem dX5_reckon_84 : decode cX5_reckon 84 = .ok (.bipush 24, 2) := by decide +kernel
theorem dX5_reckon_86 : decode cX5_reckon 86 = .ok (.ishl, 1) := by decide +kernel
theorem dX5_reckon_87 : decode cX5_reckon 87 = .ok (.aload_n 0, 1) := by decide +kernel
theorem dX5_reckon_88 : decode cX5_reckon 88 = .ok (.iload_n 1, 1) := by decide +kernel
theorem dX5_reckon_89 : decode cX5_reckon 89 = .ok (.iload 5, 2) := by decide +kernel
theorem dX5_reckon_91 : decode cX5_reckon 91 = .ok (.iconst 1, 1) := by decide +kernel
theorem dX5_reckon_92 : decode cX5_reckon 92 = .ok (.iadd, 1) := by decide +kernel
theorem dX5_reckon_93 : decode cX5_reckon 93 = .ok (.iload_n 2, 1) := by decide +kernel
theorem dX5_reckon_94 : decode cX5_reckon 94 = .ok (.invokevirtual 160, 3) := by decide +kernel
theorem dX5_reckon_97 : decode cX5_reckon 97 = .ok (.bipush 16, 2) := by decide +kernel
theorem dX5_reckon_99 : decode cX5_reckon 99 = .ok (.ishl, 1) := by decide +kernel
theorem dX5_reckon_100 : decode cX5_reckon 100 = .ok (.ior, 1) := by decide +kernel
theorem dX5_reckon_101 : decode cX5_reckon 101 = .ok (.aload_n 0, 1) := by decide +kernel
theorem dX5_reckon_102 : decode cX5_reckon 102 = .ok (.iload_n 1, 1) := by decide +kernel
theorem dX5_reckon_103 : decode cX5_reckon 103 = .ok (.iload 5, 2) := by decide +kernel
theorem dX5_reckon_105 : decode cX5_reckon 105 = .ok (.iconst 2, 1) := by decide +kernel
theorem dX5_reckon_106 : decode cX5_reckon 106 = .ok (.iadd, 1) := by decide +kernel
theorem dX5_reckon_107 : decode cX5_reckon 107 = .ok (.iload_n 2, 1) := by decide +kernel
theorem dX5_reckon_108 : decode cX5_reckon 108 = .ok (.invokevirtual 160, 3) := by decide +kernel
theorem dX5_reckon_111 : decode cX5_reckon 111 = .ok (.bipush 8, 2) := by decide +kernel
theorem dX5_reckon_113 : decode cX5_reckon 113 = .ok (.ishl, 1) := by decide +kernel
theorem dX5_reckon_114 : decode cX5_reckon 114 = .ok (.ior, 1) := by decide +kernel
theorem dX5_reckon_115 : decode cX5_reckon 115 = .ok (.aload_n 0, 1) := by decide +kernel
theorem dX5_reckon_116 : decode cX5_reckon 116 = .ok (.iload_n 1, 1) := by decide +kernel
theorem dX5_reckon_117 : decode cX5_reckon 117 = .ok (.iload 5, 2) := by decide +kernel
theorem dX5_reckon_119 : decode cX5_reckon 119 = .ok (.iconst 3, 1) := by decide +kernel
theorem dX5_reckon_120 : decode cX5_reckon 120 = .ok (.iadd, 1) := by decide +kernel
theorem dX5_reckon_121 : decode cX5_reckon 121 = .ok (.iload_n 2, 1) := by decide +kernel
theorem dX5_reckon_122 : decode cX5_reckon 122 = .ok (.invokevirtual 160, 3) := by decide +kernel
theorem dX5_reckon_125 : decode cX5_reckon 125 = .ok (.ior, 1) := by decide +kernel
theorem dX5_reckon_126 : decode cX5_reckon 126 = .ok (.iastore, 1) := by decide +kernel
theorem dX5_reckon_127 : decode cX5_reckon 127 = .ok (.iinc 4 1, 3) := by decide +kernel
theorem dX5_reckon_130 : decode cX5_reckon 130 = .ok (.goto (-75), 3) := by decide +kernel
theorem dX5_reckon_133 : decode cX5_reckon 133 = .ok (.bipush 16, 2) := by decide +kernel
theorem dX5_reckon_135 : decode cX5_reckon 135 = .ok (.istore 4, 2) := by decide +kernel
theorem dX5_reckon_137 : decode cX5_reckon 137 = .ok (.iload 4, 2) := by decide +kernel
theorem dX5_reckon_139 : decode cX5_reckon 139 = .ok (.bipush 64, 2) := by decide +kernel
theorem dX5_reckon_141 : decode cX5_reckon 141 = .ok (.if_icmp .ge 103, 3) := by decide +kernel
theorem dX5_reckon_144 : decode cX5_reckon 144 = .ok (.aload_n 0, 1) := by decide +kernel
theorem dX5_reckon_145 : decode cX5_reckon 145 = .ok (.getfield 75, 3) := by decide +kernel
theorem dX5_reckon_148 : decode cX5_reckon 148 = .ok (.iload 4, 2) := by decide +kernel
theorem dX5_reckon_150 : decode cX5_reckon 150 = .ok (.bipush 15, 2) := by decide +kernel
theorem dX5_reckon_152 : decode cX5_reckon 152 = .ok (.isub, 1) := by decide +kernel
theorem dX5_reckon_153 : decode cX5_reckon 153 = .ok (.iaload, 1) := by decide +kernel
theorem dX5_reckon_154 : decode cX5_reckon 154 = .ok (.istore 5, 2) := by decide +kernel
theorem dX5_reckon_156 : decode cX5_reckon 156 = .ok (.aload_n 0, 1) := by decide +kernel
theorem dX5_reckon_157 : decode cX5_reckon 157 = .ok (.getfield 75, 3) := by decide +kernel
theorem dX5_reckon_160 : decode cX5_reckon 160 = .ok (.iload 4, 2) := by decide +kernel
theorem dX5_reckon_162 : decode cX5_reckon 162 = .ok (.iconst 2, 1) := by decide +kernel
theorem dX5_reckon_163 : decode cX5_reckon 163 = .ok (.isub, 1) := by decide +kernel
theorem dX5_reckon_164 : decode cX5_reckon 164 = .ok (.iaload, 1) := by decide +kernel
theorem dX5_reckon_165 : decode cX5_reckon 165 = .ok (.istore 6, 2) := by decide +kernel
theorem dX5_reckon_167 : decode cX5_reckon 167 = .ok (.aload_n 0, 1) := by decide +kernel
theorem dX5_reckon_168 : decode cX5_reckon 168 = .ok (.getfield 75, 3) := by decide +kernel
theorem dX5_reckon_171 : decode cX5_reckon 171 = .ok (.iload 4, 2) := by decide +kernel
theorem dX5_reckon_173 : decode cX5_reckon 173 = .ok (.aload_n 0, 1) := by decide +kernel
theorem dX5_reckon_174 : decode cX5_reckon 174 = .ok (.getfield 75, 3) := by decide +kernel
theorem dX5_reckon_177 : decode cX5_reckon 177 = .ok (.iload 4, 2) := by decide +kernel
theorem dX5_reckon_179 : decode cX5_reckon 179 = .ok (.bipush 16, 2) := by decide +kernel
theorem dX5_reckon_181 : decode cX5_reckon 181 = .ok (.isub, 1) := by decide +kernel
theorem dX5_reckon_182 : decode cX5_reckon 182 = .ok (.iaload, 1) := by decide +kernel
theorem dX5_reckon_183 : decode cX5_reckon 183 = .ok (.aload_n 0, 1) := by decide +kernel
theorem dX5_reckon_184 : decode cX5_reckon 184 = .ok (.getfield 75, 3) := by decide +kernel
theorem dX5_reckon_187 : decode cX5_reckon 187 = .ok (.iload 4, 2) := by decide +kernel
theorem dX5_reckon_189 : decode cX5_reckon 189 = .ok (.bipush 7, 2) := by decide +kernel
theorem dX5_reckon_191 : decode cX5_reckon 191 = .ok (.isub, 1) := by decide +kernel
theorem dX5_reckon_192 : decode cX5_reckon 192 = .ok (.iaload, 1) := by decide +kernel
theorem dX5_reckon_193 : decode cX5_reckon 193 = .ok (.iadd, 1) := by decide +kernel
theorem dX5_reckon_194 : decode cX5_reckon 194 = .ok (.iload 5, 2) := by decide +kernel
theorem dX5_reckon_196 : decode cX5_reckon 196 = .ok (.bipush 7, 2) := by decide +kernel
theorem dX5_reckon_198 : decode cX5_reckon 198 = .ok (.invokestatic 164, 3) := by decide +kernel
theorem dX5_reckon_201 : decode cX5_reckon 201 = .ok (.iload 5, 2) := by decide +kernel
theorem dX5_reckon_203 : decode cX5_reckon 203 = .ok (.bipush 18, 2) := by decide +kernel
theorem dX5_reckon_205 : decode cX5_reckon 205 = .ok (.invokestatic 164, 3) := by decide +kernel
theorem dX5_reckon_208 : decode cX5_reckon 208 = .ok (.ixor, 1) := by decide +kernel
theorem dX5_reckon_209 : decode cX5_reckon 209 = .ok (.iload 5, 2) := by decide +kernel
theorem dX5_reckon_211 : decode cX5_reckon 211 = .ok (.iconst 3, 1) := by decide +kernel
theorem dX5_reckon_212 : decode cX5_reckon 212 = .ok (.iushr, 1) := by decide +kernel
theorem dX5_reckon_213 : decode cX5_reckon 213 = .ok (.ixor, 1) := by decide +kernel
theorem dX5_reckon_214 : decode cX5_reckon 214 = .ok (.iadd, 1) := by decide +kernel
theorem dX5_reckon_215 : decode cX5_reckon 215 = .ok (.iload 6, 2) := by decide +kernel
theorem dX5_reckon_217 : decode cX5_reckon 217 = .ok (.bipush 17, 2) := by decide +kernel
theorem dX5_reckon_219 : decode cX5_reckon 219 = .ok (.invokestatic 164, 3) := by decide +kernel
theorem dX5_reckon_222 : decode cX5_reckon 222 = .ok (.iload 6, 2) := by decide +kernel
theorem dX5_reckon_224 : decode cX5_reckon 224 = .ok (.bipush 19, 2) := by decide +kernel
theorem dX5_reckon_226 : decode cX5_reckon 226 = .ok (.invokestatic 164, 3) := by decide +kernel
theorem dX5_reckon_229 : decode cX5_reckon 229 = .ok (.ixor, 1) := by decide +kernel
theorem dX5_reckon_230 : decode cX5_reckon 230 = .ok (.iload 6, 2) := by decide +kernel
theorem dX5_reckon_232 : decode cX5_reckon 232 = .ok (.bipush 10, 2) := by decide +kernel
theorem dX5_reckon_234 : decode cX5_reckon 234 = .ok (.iushr, 1) := by decide +kernel
theorem dX5_reckon_235 : decode cX5_reckon 235 = .ok (.ixor, 1) := by decide +kernel
theorem dX5_reckon_236 : decode cX5_reckon 236 = .ok (.iadd, 1) := by decide +kernel
theorem dX5_reckon_237 : decode cX5_reckon 237 = .ok (.iastore, 1) := by decide +kernel
theorem dX5_reckon_238 : decode cX5_reckon 238 = .ok (.iinc 4 1, 3) := by decide +kernel
theorem dX5_reckon_241 : decode cX5_reckon 241 = .ok (.goto (-104), 3) := by decide +kernel
theorem dX5_reckon_244 : decode cX5_reckon 244 = .ok (.aload_n 0, 1) := by decide +kernel
theorem dX5_reckon_245 : decode cX5_reckon 245 = .ok (.invokevirtual 168, 3) := by decide +kernel
theorem dX5_reckon_248 : decode cX5_reckon 248 = .ok (.iinc 3 64, 3) := by decide +kernel
theorem dX5_reckon_251 : decode cX5_reckon 251 = .ok (.goto (-204), 3) := by decide +kernel
theorem dX5_reckon_254 : decode cX5_reckon 254 = .ok (.aload_n 0, 1) := by decide +kernel
theorem dX5_reckon_255 : decode cX5_reckon 255 = .ok (.getfield 78, 3) := by decide +kernel
theorem dX5_reckon_258 : decode cX5_reckon 258 = .ok (.iconst 0, 1) := by decide +kernel
theorem dX5_reckon_259 : decode cX5_reckon 259 = .ok (.aload_n 0, 1) := by decide +kernel
theorem dX5_reckon_260 : decode cX5_reckon 260 = .ok (.getfield 29, 3) := by decide +kernel
theorem dX5_reckon_263 : decode cX5_reckon 263 = .ok (.bipush 8, 2) := by decide +kernel
theorem dX5_reckon_265 : decode cX5_reckon 265 = .ok (.iload_n 1, 1) := by decide +kernel
theorem dX5_reckon_266 : decode cX5_reckon 266 = .ok (.imul, 1) := by decide +kernel
theorem dX5_reckon_267 : decode cX5_reckon 267 = .ok (.bipush 8, 2) := by decide +kernel
theorem dX5_reckon_269 : decode cX5_reckon 269 = .ok (.invokestatic 131, 3) := by decide +kernel
theorem dX5_reckon_272 : decode cX5_reckon 272 = .ok (.return_, 1) := by decide +kernel
theorem dX5_block_0 : decode cX5_block 0 = .ok (.aload_n 0, 1) := by decide +kernel
theorem dX5_block_1 : decode cX5_block 1 = .ok (.getfield 78, 3) := by decide +kernel
theorem dX5_block_4 : decode cX5_block 4 = .ok (.iconst 0, 1) := by decide +kernel
theorem dX5_block_5 : decode cX5_block 5 = .ok (.aload_n 0, 1) := by decide +kernel
theorem dX5_block_6 : decode cX5_block 6 = .ok (.getfield 81, 3) := by decide +kernel
theorem dX5_block_9 : decode cX5_block 9 = .ok (.iconst 0, 1) := by decide +kernel
theorem dX5_block_10 : decode cX5_block 10 = .ok (.bipush 8, 2) := by decide +kernel
theorem dX5_block_12 : decode cX5_block 12 = .ok (.invokestatic 131, 3) := by decide +kernel
theorem dX5_block_15 : decode cX5_block 15 = .ok (.iconst 0, 1) := by decide +kernel
theorem dX5_block_16 : decode cX5_block 16 = .ok (.istore_n 1, 1) := by decide +kernel
theorem dX5_block_17 : decode cX5_block 17 = .ok (.iload_n 1, 1) := by decide +kernel
theorem dX5_block_18 : decode cX5_block 18 = .ok (.bipush 64, 2) := by decide +kernel
theorem dX5_block_20 : decode cX5_block 20 = .ok (.if_icmp .ge 223, 3) := by decide +kernel
theorem dX5_block_23 : decode cX5_block 23 = .ok (.aload_n 0, 1) := by decide +kernel
theorem dX5_block_24 : decode cX5_block 24 = .ok (.getfield 81, 3) := by decide +kernel
theorem dX5_block_27 : decode cX5_block 27 = .ok (.iload_n 1, 1) := by decide +kernel
theorem dX5_block_28 : decode cX5_block 28 = .ok (.ineg, 1) := by decide +kernel
theorem dX5_block_29 : decode cX5_block 29 = .ok (.bipush 7, 2) := by decide +kernel
theorem dX5_block_31 : decode cX5_block 31 = .ok (.iand, 1) := by decide +kernel
theorem dX5_block_32 : decode cX5_block 32 = .ok (.iaload, 1) := by decide +kernel
theorem dX5_block_33 : decode cX5_block 33 = .ok (.istore_n 2, 1) := by decide +kernel
theorem dX5_block_34 : decode cX5_block 34 = .ok (.aload_n 0, 1) := by decide +kernel
theorem dX5_block_35 : decode cX5_block 35 = .ok (.getfield 81, 3) := by decide +kernel
theorem dX5_block_38 : decode cX5_block 38 = .ok (.iconst 1, 1) := by decide +kernel
theorem dX5_block_39 : decode cX5_block 39 = .ok (.iload_n 1, 1) := by decide +kernel
theorem dX5_block_40 : decode cX5_block 40 = .ok (.isub, 1) := by decide +kernel
theorem dX5_block_41 : decode cX5_block 41 = .ok (.bipush 7, 2) := by decide +kernel
theorem dX5_block_43 : decode cX5_block 43 = .ok (.iand, 1) := by decide +kernel
theorem dX5_block_44 : decode cX5_block 44 = .ok (.iaload, 1) := by decide +kernel
theorem dX5_block_45 : decode cX5_block 45 = .ok (.istore_n 3, 1) := by decide +kernel
theorem dX5_block_46 : decode cX5_block 46 = .ok (.aload_n 0, 1) := by decide +kernel
theorem dX5_block_47 : decode cX5_block 47 = .ok (.getfield 81, 3) := by decide +kernel
theorem dX5_block_50 : decode cX5_block 50 = .ok (.iconst 2, 1) := by decide +kernel
theorem dX5_block_51 : decode cX5_block 51 = .ok (.iload_n 1, 1) := by decide +kernel
theorem dX5_block_52 : decode cX5_block 52 = .ok (.isub, 1) := by decide +kernel
theorem dX5_block_53 : decode cX5_block 53 = .ok (.bipush 7, 2) := by decide +kernel
theorem dX5_block_55 : decode cX5_block 55 = .ok (.iand, 1) := by decide +kernel
theorem dX5_block_56 : decode cX5_block 56 = .ok (.iaload, 1) := by decide +kernel
theorem dX5_block_57 : decode cX5_block 57 = .ok (.istore 4, 2) := by decide +kernel
theorem dX5_block_59 : decode cX5_block 59 = .ok (.aload_n 0, 1) := by decide +kernel
theorem dX5_block_60 : decode cX5_block 60 = .ok (.getfield 81, 3) := by decide +kernel
theorem dX5_block_63 : decode cX5_block 63 = .ok (.iconst 4, 1) := by decide +kernel
theorem dX5_block_64 : decode cX5_block 64 = .ok (.iload_n 1, 1) := by decide +kernel
theorem dX5_block_65 : decode cX5_block 65 = .ok (.isub, 1) := by decide +kernel
theorem dX5_block_66 : decode cX5_block 66 = .ok (.bipush 7, 2) := by decide +kernel
theorem dX5_block_68 : decode cX5_block 68 = .ok (.iand, 1) := by decide +kernel
theorem dX5_block_69 : decode cX5_block 69 = .ok (.iaload, 1) := by decide +kernel
theorem dX5_block_70 : decode cX5_block 70 = .ok (.istore 5, 2) := by decide +kernel
theorem dX5_block_72 : decode cX5_block 72 = .ok (.aload_n 0, 1) := by decide +kernel
theorem dX5_block_73 : decode cX5_block 73 = .ok (.getfield 81, 3) := by decide +kernel
theorem dX5_block_76 : decode cX5_block 76 = .ok (.iconst 5, 1) := by decide +kernel
theorem dX5_block_77 : decode cX5_block 77 = .ok (.iload_n 1, 1) := by decide +kernel
theorem dX5_block_78 : decode cX5_block 78 = .ok (.isub, 1) := by decide +kernel
theorem dX5_block_79 : decode cX5_block 79 = .ok (.bipush 7, 2) := by decide +kernel
theorem dX5_block_81 : decode cX5_block 81 = .ok (.iand, 1) := by decide +kernel
theorem dX5_block_82 : decode cX5_block 82 = .ok (.iaload, 1) := by decide +kernel
theorem dX5_block_83 : decode cX5_block 83 = .ok (.istore 6, 2) := by decide +kernel
theorem dX5_block_85 : decode cX5_block 85 = .ok (.aload_n 0, 1) := by decide +kernel
theorem dX5_block_86 : decode cX5_block 86 = .ok (.getfield 81, 3) := by decide +kernel
theorem dX5_block_89 : decode cX5_block 89 = .ok (.bipush 6, 2) := by decide +kernel
theorem dX5_block_91 : decode cX5_block 91 = .ok (.iload_n 1, 1) := by decide +kernel
theorem dX5_block_92 : decode cX5_block 92 = .ok (.isub, 1) := by decide +kernel
theorem dX5_block_93 : decode cX5_block 93 = .ok (.bipush 7, 2) := by decide +kernel
theorem dX5_block_95 : decode cX5_block 95 = .ok (.iand, 1) := by decide +kernel
theorem dX5_block_96 : decode cX5_block 96 = .ok (.iaload, 1) := by decide +kernel
theorem dX5_block_97 : decode cX5_block 97 = .ok (.istore 7, 2) := by decide +kernel
theorem dX5_block_99 : decode cX5_block 99 = .ok (.aload_n 0, 1) := by decide +kernel
theorem dX5_block_100 : decode cX5_block 100 = .ok (.getfield 81, 3) := by decide +kernel
theorem dX5_block_103 : decode cX5_block 103 = .ok (.bipush 7, 2) := by decide +kernel
theorem dX5_block_105 : decode cX5_block 105 = .ok (.iload_n 1, 1) := by decide +kernel
theorem dX5_block_106 : decode cX5_block 106 = .ok (.isub, 1) := by decide +kernel
theorem dX5_block_107 : decode cX5_block 107 = .ok (.bipush 7, 2) := by decide +kernel
theorem dX5_block_109 : decode cX5_block 109 = .ok (.iand, 1) := by decide +kernel
theorem dX5_block_110 : decode cX5_block 110 = .ok (.iaload, 1) := by decide +kernel
theorem dX5_block_111 : decode cX5_block 111 = .ok (.istore 8, 2) := by decide +kernel
theorem dX5_block_113 : decode cX5_block 113 = .ok (.iload 8, 2) := by decide +kernel
theorem dX5_block_115 : decode cX5_block 115 = .ok (.iload 5, 2) := by decide +kernel
theorem dX5_block_117 : decode cX5_block 117 = .ok (.bipush 6, 2) := by decide +kernel
theorem dX5_block_119 : decode cX5_block 119 = .ok (.invokestatic 164, 3) := by decide +kernel
theorem dX5_block_122 : decode cX5_block 122 = .ok (.iload 5, 2) := by decide +kernel
theorem dX5_block_124 : decode cX5_block 124 = .ok (.bipush 11, 2) := by decide +kernel
theorem dX5_block_126 : decode cX5_block 126 = .ok (.invokestatic 164, 3) := by decide +kernel
theorem dX5_block_129 : decode cX5_block 129 = .ok (.ixor, 1) := by decide +kernel
theorem dX5_block_130 : decode cX5_block 130 = .ok (.iload 5, 2) := by decide +kernel
theorem dX5_block_132 : decode cX5_block 132 = .ok (.bipush 25, 2) := by decide +kernel
theorem dX5_block_134 : decode cX5_block 134 = .ok (.invokestatic 164, 3) := by decide +kernel
theorem dX5_block_137 : decode cX5_block 137 = .ok (.ixor, 1) := by decide +kernel
theorem dX5_block_138 : decode cX5_block 138 = .ok (.iadd, 1) := by decide +kernel
theorem dX5_block_139 : decode cX5_block 139 = .ok (.iload 5, 2) := by decide +kernel
theorem dX5_block_141 : decode cX5_block 141 = .ok (.iload 6, 2) := by decide +kernel
theorem dX5_block_143 : decode cX5_block 143 = .ok (.iand, 1) := by decide +kernel
theorem dX5_block_144 : decode cX5_block 144 = .ok (.iload 5, 2) := by decide +kernel
theorem dX5_block_146 : decode cX5_block 146 = .ok (.iconst (-1), 1) := by decide +kernel
theorem dX5_block_147 : decode cX5_block 147 = .ok (.ixor, 1) := by decide +kernel
theorem dX5_block_148 : decode cX5_block 148 = .ok (.iload 7, 2) := by decide +kernel
theorem dX5_block_150 : decode cX5_block 150 = .ok (.iand, 1) := by decide +kernel
theorem dX5_block_151 : decode cX5_block 151 = .ok (.ixor, 1) := by decide +kernel
theorem dX5_block_152 : decode cX5_block 152 = .ok (.iadd, 1) := by decide +kernel
theorem dX5_block_153 : decode cX5_block 153 = .ok (.aload_n 0, 1) := by decide +kernel
theorem dX5_block_154 : decode cX5_block 154 = .ok (.getfield 69, 3) := by decide +kernel
theorem dX5_block_157 : decode cX5_block 157 = .ok (.iload_n 1, 1) := by decide +kernel
theorem dX5_block_158 : decode cX5_block 158 = .ok (.iaload, 1) := by decide +kernel
theorem dX5_block_159 : decode cX5_block 159 = .ok (.iadd, 1) := by decide +kernel
theorem dX5_block_160 : decode cX5_block 160 = .ok (.aload_n 0, 1) := by decide +kernel
theorem dX5_block_161 : decode cX5_block 161 = .ok (.getfield 75, 3) := by decide +kernel
theorem dX5_block_164 : decode cX5_block 164 = .ok (.iload_n 1, 1) := by decide +kernel
theorem dX5_block_165 : decode cX5_block 165 = .ok (.iaload, 1) := by decide +kernel
theorem dX5_block_166 : decode cX5_block 166 = .ok (.iadd, 1) := by decide +kernel
theorem dX5_block_167 : decode cX5_block 167 = .ok (.istore 9, 2) := by decide +kernel
theorem dX5_block_169 : decode cX5_block 169 = .ok (.iload_n 2, 1) := by decide +kernel
theorem dX5_block_170 : decode cX5_block 170 = .ok (.iconst 2, 1) := by decide +kernel
theorem dX5_block_171 : decode cX5_block 171 = .ok (.invokestatic 164, 3) := by decide +kernel
theorem dX5_block_174 : decode cX5_block 174 = .ok (.iload_n 2, 1) := by decide +kernel
theorem dX5_block_175 : decode cX5_block 175 = .ok (.bipush 13, 2) := by decide +kernel
theorem dX5_block_177 : decode cX5_block 177 = .ok (.invokestatic 164, 3) := by decide +kernel
theorem dX5_block_180 : decode cX5_block 180 = .ok (.ixor, 1) := by decide +kernel
theorem dX5_block_181 : decode cX5_block 181 = .ok (.iload_n 2, 1) := by decide +kernel
theorem dX5_block_182 : decode cX5_block 182 = .ok (.bipush 22, 2) := by decide +kernel
theorem dX5_block_184 : decode cX5_block 184 = .ok (.invokestatic 164, 3) := by decide +kernel
theorem dX5_block_187 : decode cX5_block 187 = .ok (.ixor, 1) := by decide +kernel
theorem dX5_block_188 : decode cX5_block 188 = .ok (.iload_n 2, 1) := by decide +kernel
theorem dX5_block_189 : decode cX5_block 189 = .ok (.iload_n 3, 1) := by decide +kernel
theorem dX5_block_190 : decode cX5_block 190 = .ok (.iand, 1) := by decide +kernel
theorem dX5_block_191 : decode cX5_block 191 = .ok (.iload_n 2, 1) := by decide +kernel
theorem dX5_block_192 : decode cX5_block 192 = .ok (.iload 4, 2) := by decide +kernel
theorem dX5_block_194 : decode cX5_block 194 = .ok (.iand, 1) := by decide +kernel
theorem dX5_block_195 : decode cX5_block 195 = .ok (.ixor, 1) := by decide +kernel
theorem dX5_block_196 : decode cX5_block 196 = .ok (.iload_n 3, 1) := by decide +kernel
theorem dX5_block_197 : decode cX5_block 197 = .ok (.iload 4, 2) := by decide +kernel
theorem dX5_block_199 : decode cX5_block 199 = .ok (.iand, 1) := by decide +kernel
theorem dX5_block_200 : decode cX5_block 200 = .ok (.ixor, 1) := by decide +kernel
theorem dX5_block_201 : decode cX5_block 201 = .ok (.iadd, 1) := by decide +kernel
theorem dX5_block_202 : decode cX5_block 202 = .ok (.istore 10, 2) := by decide +kernel
theorem dX5_block_204 : decode cX5_block 204 = .ok (.aload_n 0, 1) := by decide +kernel
theorem dX5_block_205 : decode cX5_block 205 = .ok (.getfield 81, 3) := by decide +kernel
theorem dX5_block_208 : decode cX5_block 208 = .ok (.iconst 3, 1) := by decide +kernel
theorem dX5_block_209 : decode cX5_block 209 = .ok (.iload_n 1, 1) := by decide +kernel
theorem dX5_block_210 : decode cX5_block 210 = .ok (.isub, 1) := by decide +kernel
theorem dX5_block_211 : decode cX5_block 211 = .ok (.bipush 7, 2) := by decide +kernel
theorem dX5_block_213 : decode cX5_block 213 = .ok (.iand, 1) := by decide +kernel
theorem dX5_block_214 : decode cX5_block 214 = .ok (.dup2, 1) := by decide +kernel
theorem dX5_block_215 : decode cX5_block 215 = .ok (.iaload, 1) := by decide +kernel
theorem dX5_block_216 : decode cX5_block 216 = .ok (.iload 9, 2) := by decide +kernel
theorem dX5_block_218 : decode cX5_block 218 = .ok (.iadd, 1) := by decide +kernel
theorem dX5_block_219 : decode cX5_block 219 = .ok (.iastore, 1) := by decide +kernel
theorem dX5_block_220 : decode cX5_block 220 = .ok (.aload_n 0, 1) := by decide +kernel
theorem dX5_block_221 : decode cX5_block 221 = .ok (.getfield 81, 3) := by decide +kernel
theorem dX5_block_224 : decode cX5_block 224 = .ok (.bipush 7, 2) := by decide +kernel
theorem dX5_block_226 : decode cX5_block 226 = .ok (.iload_n 1, 1) := by decide +kernel
theorem dX5_block_227 : decode cX5_block 227 = .ok (.isub, 1) := by decide +kernel
theorem dX5_block_228 : decode cX5_block 228 = .ok (.bipush 7, 2) := by decide +kernel
theorem dX5_block_230 : decode cX5_block 230 = .ok (.iand, 1) := by decide +kernel
theorem dX5_block_231 : decode cX5_block 231 = .ok (.iload 9, 2) := by decide +kernel
theorem dX5_block_233 : decode cX5_block 233 = .ok (.iload 10, 2) := by decide +kernel
theorem dX5_block_235 : decode cX5_block 235 = .ok (.iadd, 1) := by decide +kernel
theorem dX5_block_236 : decode cX5_block 236 = .ok (.iastore, 1) := by decide +kernel
theorem dX5_block_237 : decode cX5_block 237 = .ok (.iinc 1 1, 3) := by decide +kernel
theorem dX5_block_240 : decode cX5_block 240 = .ok (.goto (-223), 3) := by decide +kernel
theorem dX5_block_243 : decode cX5_block 243 = .ok (.iconst 0, 1) := by decide +kernel
theorem dX5_block_244 : decode cX5_block 244 = .ok (.istore_n 1, 1) := by decide +kernel
theorem dX5_block_245 : decode cX5_block 245 = .ok (.iload_n 1, 1) := by decide +kernel
theorem dX5_block_246 : decode cX5_block 246 = .ok (.bipush 8, 2) := by decide +kernel
theorem dX5_block_248 : decode cX5_block 248 = .ok (.if_icmp .ge 24, 3) := by decide +kernel
theorem dX5_block_251 : decode cX5_block 251 = .ok (.aload_n 0, 1) := by decide +kernel
theorem dX5_block_252 : decode cX5_block 252 = .ok (.getfield 78, 3) := by decide +kernel
theorem dX5_block_255 : decode cX5_block 255 = .ok (.iload_n 1, 1) := by decide +kernel
theorem dX5_block_256 : decode cX5_block 256 = .ok (.dup2, 1) := by decide +kernel
theorem dX5_block_257 : decode cX5_block 257 = .ok (.iaload, 1) := by decide +kernel
theorem dX5_block_258 : decode cX5_block 258 = .ok (.aload_n 0, 1) := by decide +kernel
theorem dX5_block_259 : decode cX5_block 259 = .ok (.getfield 81, 3) := by decide +kernel
theorem dX5_block_262 : decode cX5_block 262 = .ok (.iload_n 1, 1) := by decide +kernel
theorem dX5_block_263 : decode cX5_block 263 = .ok (.iaload, 1) := by decide +kernel
theorem dX5_block_264 : decode cX5_block 264 = .ok (.iadd, 1) := by decide +kernel
theorem dX5_block_265 : decode cX5_block 265 = .ok (.iastore, 1) := by decide +kernel
theorem dX5_block_266 : decode cX5_block 266 = .ok (.iinc 1 1, 3) := by decide +kernel
theorem dX5_block_269 : decode cX5_block 269 = .ok (.goto (-24), 3) := by decide +kernel
theorem dX5_block_272 : decode cX5_block 272 = .ok (.return_, 1) := by decide +kernel
theorem dX5_digest_0 : decode cX5_digest 0 = .ok (.aload_n 0, 1) := by decide +kernel
theorem dX5_digest_1 : decode cX5_digest 1 = .ok (.iconst 0, 1) := by decide +kernel
theorem dX5_digest_2 : decode cX5_digest 2 = .ok (.putfield 84, 3) := by decide +kernel
theorem dX5_digest_5 : decode cX5_digest 5 = .ok (.aload_n 0, 1) := by decide +kernel
theorem dX5_digest_6 : decode cX5_digest 6 = .ok (.iload_n 1, 1) := by decide +kernel
theorem dX5_digest_7 : decode cX5_digest 7 = .ok (.invokevirtual 114, 3) := by decide +kernel
theorem dX5_digest_10 : decode cX5_digest 10 = .ok (.ifCond .eq 20, 3) := by decide +kernel
theorem dX5_digest_13 : decode cX5_digest 13 = .ok (.iload_n 2, 1) := by decide +kernel
theorem dX5_digest_14 : decode cX5_digest 14 = .ok (.ifCond .lt 16, 3) := by decide +kernel
theorem dX5_digest_17 : decode cX5_digest 17 = .ok (.iload_n 2, 1) := by decide +kernel
theorem dX5_digest_18 : decode cX5_digest 18 = .ok (.bipush 32, 2) := by decide +kernel
theorem dX5_digest_20 : decode cX5_digest 20 = .ok (.aload_n 0, 1) := by decide +kernel
theorem dX5_digest_21 : decode cX5_digest 21 = .ok (.getfield 35, 3) := by decide +kernel
theorem dX5_digest_24 : decode cX5_digest 24 = .ok (.iload_n 1, 1) := by decide +kernel
theorem dX5_digest_25 : decode cX5_digest 25 = .ok (.iaload, 1) := by decide +kernel
theorem dX5_digest_26 : decode cX5_digest 26 = .ok (.iadd, 1) := by decide +kernel
theorem dX5_digest_27 : decode cX5_digest 27 = .ok (.if_icmp .lt 5, 3) := by decide +kernel
theorem dX5_digest_30 : decode cX5_digest 30 = .ok (.iconst (-1), 1) := by decide +kernel
theorem dX5_digest_31 : decode cX5_digest 31 = .ok (.ireturn, 1) := by decide +kernel
theorem dX5_digest_32 : decode cX5_digest 32 = .ok (.iload_n 2, 1) := by decide +kernel
theorem dX5_digest_33 : decode cX5_digest 33 = .ok (.bipush 32, 2) := by decide +kernel
theorem dX5_digest_35 : decode cX5_digest 35 = .ok (.if_icmp .lt 19, 3) := by decide +kernel
theorem dX5_digest_38 : decode cX5_digest 38 = .ok (.aload_n 0, 1) := by decide +kernel
theorem dX5_digest_39 : decode cX5_digest 39 = .ok (.getfield 38, 3) := by decide +kernel
theorem dX5_digest_42 : decode cX5_digest 42 = .ok (.sipush 200, 3) := by decide +kernel
theorem dX5_digest_45 : decode cX5_digest 45 = .ok (.iload_n 1, 1) := by decide +kernel
theorem dX5_digest_46 : decode cX5_digest 46 = .ok (.imul, 1) := by decide +kernel
theorem dX5_digest_47 : decode cX5_digest 47 = .ok (.iload_n 2, 1) := by decide +kernel
theorem dX5_digest_48 : decode cX5_digest 48 = .ok (.iadd, 1) := by decide +kernel
theorem dX5_digest_49 : decode cX5_digest 49 = .ok (.bipush 32, 2) := by decide +kernel
theorem dX5_digest_51 : decode cX5_digest 51 = .ok (.isub, 1) := by decide +kernel
theorem dX5_digest_52 : decode cX5_digest 52 = .ok (.iaload, 1) := by decide +kernel
theorem dX5_digest_53 : decode cX5_digest 53 = .ok (.ireturn, 1) := by decide +kernel
theorem dX5_digest_54 : decode cX5_digest 54 = .ok (.aload_n 0, 1) := by decide +kernel
theorem dX5_digest_55 : decode cX5_digest 55 = .ok (.getfield 29, 3) := by decide +kernel
theorem dX5_digest_58 : decode cX5_digest 58 = .ok (.bipush 8, 2) := by decide +kernel
theorem dX5_digest_60 : decode cX5_digest 60 = .ok (.iload_n 1, 1) := by decide +kernel
theorem dX5_digest_61 : decode cX5_digest 61 = .ok (.imul, 1) := by decide +kernel
theorem dX5_digest_62 : decode cX5_digest 62 = .ok (.iload_n 2, 1) := by decide +kernel
theorem dX5_digest_63 : decode cX5_digest 63 = .ok (.iconst 4, 1) := by decide +kernel
theorem dX5_digest_64 : decode cX5_digest 64 = .ok (.idiv, 1) := by decide +kernel
theorem dX5_digest_65 : decode cX5_digest 65 = .ok (.iadd, 1) := by decide +kernel
theorem dX5_digest_66 : decode cX5_digest 66 = .ok (.iaload, 1) := by decide +kernel
theorem dX5_digest_67 : decode cX5_digest 67 = .ok (.bipush 24, 2) := by decide +kernel
theorem dX5_digest_69 : decode cX5_digest 69 = .ok (.bipush 8, 2) := by decide +kernel
theorem dX5_digest_71 : decode cX5_digest 71 = .ok (.iload_n 2, 1) := by decide +kernel
theorem dX5_digest_72 : decode cX5_digest 72 = .ok (.iconst 4, 1) := by decide +kernel
theorem dX5_digest_73 : decode cX5_digest 73 = .ok (.irem, 1) := by decide +kernel
theorem dX5_digest_74 : decode cX5_digest 74 = .ok (.imul, 1) := by decide +kernel
theorem dX5_digest_75 : decode cX5_digest 75 = .ok (.isub, 1) := by decide +kernel
theorem dX5_digest_76 : decode cX5_digest 76 = .ok (.iushr, 1) := by decide +kernel
theorem dX5_digest_77 : decode cX5_digest 77 = .ok (.sipush 255, 3) := by decide +kernel
theorem dX5_digest_80 : decode cX5_digest 80 = .ok (.iand, 1) := by decide +kernel
theorem dX5_digest_81 : decode cX5_digest 81 = .ok (.ireturn, 1) := by decide +kernel
theorem dX5_listed_0 : decode cX5_listed 0 = .ok (.aload_n 0, 1) := by decide +kernel
theorem dX5_listed_1 : decode cX5_listed 1 = .ok (.iconst 0, 1) := by decide +kernel
theorem dX5_listed_2 : decode cX5_listed 2 = .ok (.putfield 84, 3) := by decide +kernel
theorem dX5_listed_5 : decode cX5_listed 5 = .ok (.iload_n 1, 1) := by decide +kernel
theorem dX5_listed_6 : decode cX5_listed 6 = .ok (.ifCond .lt 11, 3) := by decide +kernel
theorem dX5_listed_9 : decode cX5_listed 9 = .ok (.iload_n 1, 1) := by decide +kernel
theorem dX5_listed_10 : decode cX5_listed 10 = .ok (.aload_n 0, 1) := by decide +kernel
theorem dX5_listed_11 : decode cX5_listed 11 = .ok (.getfield 137, 3) := by decide +kernel
theorem dX5_listed_14 : decode cX5_listed 14 = .ok (.if_icmp .lt 7, 3) := by decide +kernel
theorem dX5_listed_17 : decode cX5_listed 17 = .ok (.iconst (-1), 1) := by decide +kernel
theorem dX5_listed_18 : decode cX5_listed 18 = .ok (.goto 9, 3) := by decide +kernel
theorem dX5_listed_21 : decode cX5_listed 21 = .ok (.aload_n 0, 1) := by decide +kernel
theorem dX5_listed_22 : decode cX5_listed 22 = .ok (.getfield 63, 3) := by decide +kernel
theorem dX5_listed_25 : decode cX5_listed 25 = .ok (.iload_n 1, 1) := by decide +kernel
theorem dX5_listed_26 : decode cX5_listed 26 = .ok (.iaload, 1) := by decide +kernel
theorem dX5_listed_27 : decode cX5_listed 27 = .ok (.ireturn, 1) := by decide +kernel
theorem dX5_needs_0 : decode cX5_needs 0 = .ok (.aload_n 0, 1) := by decide +kernel
theorem dX5_needs_1 : decode cX5_needs 1 = .ok (.iconst 0, 1) := by decide +kernel
theorem dX5_needs_2 : decode cX5_needs 2 = .ok (.putfield 84, 3) := by decide +kernel
theorem dX5_needs_5 : decode cX5_needs 5 = .ok (.aload_n 0, 1) := by decide +kernel
theorem dX5_needs_6 : decode cX5_needs 6 = .ok (.iload_n 1, 1) := by decide +kernel
theorem dX5_needs_7 : decode cX5_needs 7 = .ok (.invokevirtual 114, 3) := by decide +kernel
theorem dX5_needs_10 : decode cX5_needs 10 = .ok (.ifCond .eq 10, 3) := by decide +kernel
theorem dX5_needs_13 : decode cX5_needs 13 = .ok (.iload_n 2, 1) := by decide +kernel
theorem dX5_needs_14 : decode cX5_needs 14 = .ok (.invokestatic 100, 3) := by decide +kernel
theorem dX5_needs_17 : decode cX5_needs 17 = .ok (.ifCond .ne 5, 3) := by decide +kernel
theorem dX5_needs_20 : decode cX5_needs 20 = .ok (.iconst (-1), 1) := by decide +kernel
theorem dX5_needs_21 : decode cX5_needs 21 = .ok (.ireturn, 1) := by decide +kernel
theorem dX5_needs_22 : decode cX5_needs 22 = .ok (.aload_n 0, 1) := by decide +kernel
theorem dX5_needs_23 : decode cX5_needs 23 = .ok (.getfield 41, 3) := by decide +kernel
theorem dX5_needs_26 : decode cX5_needs 26 = .ok (.iload_n 1, 1) := by decide +kernel
theorem dX5_needs_27 : decode cX5_needs 27 = .ok (.iaload, 1) := by decide +kernel
theorem dX5_needs_28 : decode cX5_needs 28 = .ok (.istore_n 3, 1) := by decide +kernel
theorem dX5_needs_29 : decode cX5_needs 29 = .ok (.iconst 0, 1) := by decide +kernel
theorem dX5_needs_30 : decode cX5_needs 30 = .ok (.istore 4, 2) := by decide +kernel
theorem dX5_needs_32 : decode cX5_needs 32 = .ok (.iload 4, 2) := by decide +kernel
theorem dX5_needs_34 : decode cX5_needs 34 = .ok (.iload_n 3, 1) := by decide +kernel
theorem dX5_needs_35 : decode cX5_needs 35 = .ok (.if_icmp .ge 28, 3) := by decide +kernel
theorem dX5_needs_38 : decode cX5_needs 38 = .ok (.aload_n 0, 1) := by decide +kernel
theorem dX5_needs_39 : decode cX5_needs 39 = .ok (.getfield 44, 3) := by decide +kernel
theorem dX5_needs_42 : decode cX5_needs 42 = .ok (.bipush 10, 2) := by decide +kernel
theorem dX5_needs_44 : decode cX5_needs 44 = .ok (.iload_n 1, 1) := by decide +kernel
theorem dX5_needs_45 : decode cX5_needs 45 = .ok (.imul, 1) := by decide +kernel
theorem dX5_needs_46 : decode cX5_needs 46 = .ok (.iload 4, 2) := by decide +kernel
theorem dX5_needs_48 : decode cX5_needs 48 = .ok (.iadd, 1) := by decide +kernel
theorem dX5_needs_49 : decode cX5_needs 49 = .ok (.iaload, 1) := by decide +kernel
theorem dX5_needs_50 : decode cX5_needs 50 = .ok (.iload_n 2, 1) := by decide +kernel
theorem dX5_needs_51 : decode cX5_needs 51 = .ok (.if_icmp .ne 6, 3) := by decide +kernel
theorem dX5_needs_54 : decode cX5_needs 54 = .ok (.iload 4, 2) := by decide +kernel
theorem dX5_needs_56 : decode cX5_needs 56 = .ok (.ireturn, 1) := by decide +kernel
theorem dX5_needs_57 : decode cX5_needs 57 = .ok (.iinc 4 1, 3) := by decide +kernel
theorem dX5_needs_60 : decode cX5_needs 60 = .ok (.goto (-28), 3) := by decide +kernel
theorem dX5_needs_63 : decode cX5_needs 63 = .ok (.aload_n 0, 1) := by decide +kernel
theorem dX5_needs_64 : decode cX5_needs 64 = .ok (.getfield 44, 3) := by decide +kernel
theorem dX5_needs_67 : decode cX5_needs 67 = .ok (.bipush 10, 2) := by decide +kernel
theorem dX5_needs_69 : decode cX5_needs 69 = .ok (.iload_n 1, 1) := by decide +kernel
theorem dX5_needs_70 : decode cX5_needs 70 = .ok (.imul, 1) := by decide +kernel
theorem dX5_needs_71 : decode cX5_needs 71 = .ok (.iload_n 3, 1) := by decide +kernel
theorem dX5_needs_72 : decode cX5_needs 72 = .ok (.iadd, 1) := by decide +kernel
theorem dX5_needs_73 : decode cX5_needs 73 = .ok (.iload_n 2, 1) := by decide +kernel
theorem dX5_needs_74 : decode cX5_needs 74 = .ok (.iastore, 1) := by decide +kernel
theorem dX5_needs_75 : decode cX5_needs 75 = .ok (.aload_n 0, 1) := by decide +kernel
theorem dX5_needs_76 : decode cX5_needs 76 = .ok (.getfield 41, 3) := by decide +kernel
theorem dX5_needs_79 : decode cX5_needs 79 = .ok (.iload_n 1, 1) := by decide +kernel
theorem dX5_needs_80 : decode cX5_needs 80 = .ok (.dup2, 1) := by decide +kernel
theorem dX5_needs_81 : decode cX5_needs 81 = .ok (.iaload, 1) := by decide +kernel
theorem dX5_needs_82 : decode cX5_needs 82 = .ok (.iconst 1, 1) := by decide +kernel
theorem dX5_needs_83 : decode cX5_needs 83 = .ok (.iadd, 1) := by decide +kernel
theorem dX5_needs_84 : decode cX5_needs 84 = .ok (.iastore, 1) := by decide +kernel
theorem dX5_needs_85 : decode cX5_needs 85 = .ok (.iload_n 3, 1) := by decide +kernel
theorem dX5_needs_86 : decode cX5_needs 86 = .ok (.ireturn, 1) := by decide +kernel
