theorem dX5_init_0 : decode cX5_init 0 = .ok (.aload_n 0, 1) := by decide +kernel
theorem dX5_init_1 : decode cX5_init 1 = .ok (.invokespecial 1, 3) := by decide +kernel
theorem dX5_init_4 : decode cX5_init 4 = .ok (.aload_n 0, 1) := by decide +kernel
theorem dX5_init_5 : decode cX5_init 5 = .ok (.sipush 174, 3) := by decide +kernel
theorem dX5_init_8 : decode cX5_init 8 = .ok (.newarray .int, 2) := by decide +kernel
theorem dX5_init_10 : decode cX5_init 10 = .ok (.putfield 7, 3) := by decide +kernel
theorem dX5_init_13 : decode cX5_init 13 = .ok (.aload_n 0, 1) := by decide +kernel
theorem dX5_init_14 : decode cX5_init 14 = .ok (.sipush 1044, 3) := by decide +kernel
theorem dX5_init_17 : decode cX5_init 17 = .ok (.newarray .int, 2) := by decide +kernel
theorem dX5_init_19 : decode cX5_init 19 = .ok (.putfield 13, 3) := by decide +kernel
theorem dX5_init_22 : decode cX5_init 22 = .ok (.aload_n 0, 1) := by decide +kernel
theorem dX5_init_23 : decode cX5_init 23 = .ok (.sipush 348, 3) := by decide +kernel
theorem dX5_init_26 : decode cX5_init 26 = .ok (.newarray .int, 2) := by decide +kernel
theorem dX5_init_28 : decode cX5_init 28 = .ok (.putfield 16, 3) := by decide +kernel
theorem dX5_init_31 : decode cX5_init 31 = .ok (.aload_n 0, 1) := by decide +kernel
theorem dX5_init_32 : decode cX5_init 32 = .ok (.iconst 2, 1) := by decide +kernel
theorem dX5_init_33 : decode cX5_init 33 = .ok (.newarray .boolean, 2) := by decide +kernel
theorem dX5_init_35 : decode cX5_init 35 = .ok (.putfield 19, 3) := by decide +kernel
theorem dX5_init_38 : decode cX5_init 38 = .ok (.aload_n 0, 1) := by decide +kernel
theorem dX5_init_39 : decode cX5_init 39 = .ok (.sipush 174, 3) := by decide +kernel
theorem dX5_init_42 : decode cX5_init 42 = .ok (.newarray .int, 2) := by decide +kernel
theorem dX5_init_44 : decode cX5_init 44 = .ok (.putfield 23, 3) := by decide +kernel
theorem dX5_init_47 : decode cX5_init 47 = .ok (.aload_n 0, 1) := by decide +kernel
theorem dX5_init_48 : decode cX5_init 48 = .ok (.bipush 60, 2) := by decide +kernel
theorem dX5_init_50 : decode cX5_init 50 = .ok (.newarray .int, 2) := by decide +kernel
theorem dX5_init_52 : decode cX5_init 52 = .ok (.putfield 26, 3) := by decide +kernel
theorem dX5_init_55 : decode cX5_init 55 = .ok (.aload_n 0, 1) := by decide +kernel
theorem dX5_init_56 : decode cX5_init 56 = .ok (.bipush 16, 2) := by decide +kernel
theorem dX5_init_58 : decode cX5_init 58 = .ok (.newarray .int, 2) := by decide +kernel
theorem dX5_init_60 : decode cX5_init 60 = .ok (.putfield 29, 3) := by decide +kernel
theorem dX5_init_63 : decode cX5_init 63 = .ok (.aload_n 0, 1) := by decide +kernel
theorem dX5_init_64 : decode cX5_init 64 = .ok (.bipush 100, 2) := by decide +kernel
theorem dX5_init_66 : decode cX5_init 66 = .ok (.newarray .int, 2) := by decide +kernel
theorem dX5_init_68 : decode cX5_init 68 = .ok (.putfield 32, 3) := by decide +kernel
theorem dX5_init_71 : decode cX5_init 71 = .ok (.aload_n 0, 1) := by decide +kernel
theorem dX5_init_72 : decode cX5_init 72 = .ok (.bipush 100, 2) := by decide +kernel
theorem dX5_init_74 : decode cX5_init 74 = .ok (.newarray .int, 2) := by decide +kernel
theorem dX5_init_76 : decode cX5_init 76 = .ok (.putfield 35, 3) := by decide +kernel
theorem dX5_init_79 : decode cX5_init 79 = .ok (.aload_n 0, 1) := by decide +kernel
theorem dX5_init_80 : decode cX5_init 80 = .ok (.bipush 100, 2) := by decide +kernel
theorem dX5_init_82 : decode cX5_init 82 = .ok (.newarray .int, 2) := by decide +kernel
theorem dX5_init_84 : decode cX5_init 84 = .ok (.putfield 38, 3) := by decide +kernel
theorem dX5_init_87 : decode cX5_init 87 = .ok (.aload_n 0, 1) := by decide +kernel
theorem dX5_init_88 : decode cX5_init 88 = .ok (.bipush 100, 2) := by decide +kernel
theorem dX5_init_90 : decode cX5_init 90 = .ok (.newarray .int, 2) := by decide +kernel
theorem dX5_init_92 : decode cX5_init 92 = .ok (.putfield 41, 3) := by decide +kernel
theorem dX5_init_95 : decode cX5_init 95 = .ok (.aload_n 0, 1) := by decide +kernel
theorem dX5_init_96 : decode cX5_init 96 = .ok (.bipush 40, 2) := by decide +kernel
theorem dX5_init_98 : decode cX5_init 98 = .ok (.newarray .boolean, 2) := by decide +kernel
theorem dX5_init_100 : decode cX5_init 100 = .ok (.putfield 44, 3) := by decide +kernel
theorem dX5_init_103 : decode cX5_init 103 = .ok (.aload_n 0, 1) := by decide +kernel
theorem dX5_init_104 : decode cX5_init 104 = .ok (.bipush 100, 2) := by decide +kernel
theorem dX5_init_106 : decode cX5_init 106 = .ok (.newarray .int, 2) := by decide +kernel
theorem dX5_init_108 : decode cX5_init 108 = .ok (.putfield 47, 3) := by decide +kernel
theorem dX5_init_111 : decode cX5_init 111 = .ok (.aload_n 0, 1) := by decide +kernel
theorem dX5_init_112 : decode cX5_init 112 = .ok (.getfield 7, 3) := by decide +kernel
theorem dX5_init_115 : decode cX5_init 115 = .ok (.iconst 1, 1) := by decide +kernel
theorem dX5_init_116 : decode cX5_init 116 = .ok (.iconst 3, 1) := by decide +kernel
theorem dX5_init_117 : decode cX5_init 117 = .ok (.iastore, 1) := by decide +kernel
theorem dX5_init_118 : decode cX5_init 118 = .ok (.aload_n 0, 1) := by decide +kernel
theorem dX5_init_119 : decode cX5_init 119 = .ok (.getfield 7, 3) := by decide +kernel
theorem dX5_init_122 : decode cX5_init 122 = .ok (.iconst 2, 1) := by decide +kernel
theorem dX5_init_123 : decode cX5_init 123 = .ok (.iconst 2, 1) := by decide +kernel
theorem dX5_init_124 : decode cX5_init 124 = .ok (.iastore, 1) := by decide +kernel
theorem dX5_init_125 : decode cX5_init 125 = .ok (.aload_n 0, 1) := by decide +kernel
theorem dX5_init_126 : decode cX5_init 126 = .ok (.getfield 7, 3) := by decide +kernel
theorem dX5_init_129 : decode cX5_init 129 = .ok (.iconst 3, 1) := by decide +kernel
theorem dX5_init_130 : decode cX5_init 130 = .ok (.bipush 6, 2) := by decide +kernel
theorem dX5_init_132 : decode cX5_init 132 = .ok (.iastore, 1) := by decide +kernel
theorem dX5_init_133 : decode cX5_init 133 = .ok (.aload_n 0, 1) := by decide +kernel
theorem dX5_init_134 : decode cX5_init 134 = .ok (.getfield 7, 3) := by decide +kernel
theorem dX5_init_137 : decode cX5_init 137 = .ok (.iconst 4, 1) := by decide +kernel
theorem dX5_init_138 : decode cX5_init 138 = .ok (.sipush 200, 3) := by decide +kernel
theorem dX5_init_141 : decode cX5_init 141 = .ok (.iastore, 1) := by decide +kernel
theorem dX5_init_142 : decode cX5_init 142 = .ok (.iconst 0, 1) := by decide +kernel
theorem dX5_init_143 : decode cX5_init 143 = .ok (.istore_n 1, 1) := by decide +kernel
theorem dX5_init_144 : decode cX5_init 144 = .ok (.iload_n 1, 1) := by decide +kernel
theorem dX5_init_145 : decode cX5_init 145 = .ok (.bipush 10, 2) := by decide +kernel
theorem dX5_init_147 : decode cX5_init 147 = .ok (.if_icmp .ge 35, 3) := by decide +kernel
theorem dX5_init_150 : decode cX5_init 150 = .ok (.aload_n 0, 1) := by decide +kernel
theorem dX5_init_151 : decode cX5_init 151 = .ok (.iload_n 1, 1) := by decide +kernel
theorem dX5_init_152 : decode cX5_init 152 = .ok (.iconst 0, 1) := by decide +kernel
theorem dX5_init_153 : decode cX5_init 153 = .ok (.bipush 16, 2) := by decide +kernel
theorem dX5_init_155 : decode cX5_init 155 = .ok (.invokevirtual 50, 3) := by decide +kernel
theorem dX5_init_158 : decode cX5_init 158 = .ok (.aload_n 0, 1) := by decide +kernel
theorem dX5_init_159 : decode cX5_init 159 = .ok (.iload_n 1, 1) := by decide +kernel
theorem dX5_init_160 : decode cX5_init 160 = .ok (.iconst 1, 1) := by decide +kernel
theorem dX5_init_161 : decode cX5_init 161 = .ok (.iload_n 1, 1) := by decide +kernel
theorem dX5_init_162 : decode cX5_init 162 = .ok (.iconst 4, 1) := by decide +kernel
theorem dX5_init_163 : decode cX5_init 163 = .ok (.irem, 1) := by decide +kernel
theorem dX5_init_164 : decode cX5_init 164 = .ok (.invokevirtual 50, 3) := by decide +kernel
theorem dX5_init_167 : decode cX5_init 167 = .ok (.aload_n 0, 1) := by decide +kernel
theorem dX5_init_168 : decode cX5_init 168 = .ok (.iload_n 1, 1) := by decide +kernel
theorem dX5_init_169 : decode cX5_init 169 = .ok (.iconst 2, 1) := by decide +kernel
theorem dX5_init_170 : decode cX5_init 170 = .ok (.iload_n 1, 1) := by decide +kernel
theorem dX5_init_171 : decode cX5_init 171 = .ok (.iconst 4, 1) := by decide +kernel
theorem dX5_init_172 : decode cX5_init 172 = .ok (.irem, 1) := by decide +kernel
theorem dX5_init_173 : decode cX5_init 173 = .ok (.invokevirtual 50, 3) := by decide +kernel
theorem dX5_init_176 : decode cX5_init 176 = .ok (.iinc 1 1, 3) := by decide +kernel
theorem dX5_init_179 : decode cX5_init 179 = .ok (.goto (-35), 3) := by decide +kernel
theorem dX5_init_182 : decode cX5_init 182 = .ok (.return_, 1) := by decide +kernel
theorem dX5_thrown_0 : decode cX5_thrown 0 = .ok (.aload_n 0, 1) := by decide +kernel
theorem dX5_thrown_1 : decode cX5_thrown 1 = .ok (.getfield 54, 3) := by decide +kernel
theorem dX5_thrown_4 : decode cX5_thrown 4 = .ok (.ireturn, 1) := by decide +kernel
theorem dX5_holds_0 : decode cX5_holds 0 = .ok (.aload_n 0, 1) := by decide +kernel
theorem dX5_holds_1 : decode cX5_holds 1 = .ok (.iload_n 1, 1) := by decide +kernel
theorem dX5_holds_2 : decode cX5_holds 2 = .ok (.putfield 54, 3) := by decide +kernel
theorem dX5_holds_5 : decode cX5_holds 5 = .ok (.iload_n 1, 1) := by decide +kernel
theorem dX5_holds_6 : decode cX5_holds 6 = .ok (.ifCond .ne 7, 3) := by decide +kernel
theorem dX5_holds_9 : decode cX5_holds 9 = .ok (.iconst 1, 1) := by decide +kernel
theorem dX5_holds_10 : decode cX5_holds 10 = .ok (.goto 4, 3) := by decide +kernel
theorem dX5_holds_13 : decode cX5_holds 13 = .ok (.iconst 0, 1) := by decide +kernel
theorem dX5_holds_14 : decode cX5_holds 14 = .ok (.ireturn, 1) := by decide +kernel
theorem dX5_in_0 : decode cX5_in 0 = .ok (.iload_n 0, 1) := by decide +kernel
theorem dX5_in_1 : decode cX5_in 1 = .ok (.iload_n 1, 1) := by decide +kernel
theorem dX5_in_2 : decode cX5_in 2 = .ok (.if_icmp .lt 12, 3) := by decide +kernel
theorem dX5_in_5 : decode cX5_in 5 = .ok (.iload_n 0, 1) := by decide +kernel
theorem dX5_in_6 : decode cX5_in 6 = .ok (.iload_n 2, 1) := by decide +kernel
theorem dX5_in_7 : decode cX5_in 7 = .ok (.if_icmp .gt 7, 3) := by decide +kernel
theorem dX5_in_10 : decode cX5_in 10 = .ok (.iconst 1, 1) := by decide +kernel
theorem dX5_in_11 : decode cX5_in 11 = .ok (.goto 4, 3) := by decide +kernel
theorem dX5_in_14 : decode cX5_in 14 = .ok (.iconst 0, 1) := by decide +kernel
theorem dX5_in_15 : decode cX5_in 15 = .ok (.ireturn, 1) := by decide +kernel
theorem dX5_isLetter_0 : decode cX5_isLetter 0 = .ok (.iload_n 0, 1) := by decide +kernel
theorem dX5_isLetter_1 : decode cX5_isLetter 1 = .ok (.iconst 0, 1) := by decide +kernel
theorem dX5_isLetter_2 : decode cX5_isLetter 2 = .ok (.bipush 9, 2) := by decide +kernel
theorem dX5_isLetter_4 : decode cX5_isLetter 4 = .ok (.invokestatic 58, 3) := by decide +kernel
theorem dX5_isLetter_7 : decode cX5_isLetter 7 = .ok (.ireturn, 1) := by decide +kernel
theorem dX5_isShape_0 : decode cX5_isShape 0 = .ok (.iload_n 0, 1) := by decide +kernel
theorem dX5_isShape_1 : decode cX5_isShape 1 = .ok (.iconst 0, 1) := by decide +kernel
theorem dX5_isShape_2 : decode cX5_isShape 2 = .ok (.iconst 3, 1) := by decide +kernel
theorem dX5_isShape_3 : decode cX5_isShape 3 = .ok (.invokestatic 58, 3) := by decide +kernel
theorem dX5_isShape_6 : decode cX5_isShape 6 = .ok (.ireturn, 1) := by decide +kernel
theorem dX5_isTold_0 : decode cX5_isTold 0 = .ok (.iload_n 0, 1) := by decide +kernel
theorem dX5_isTold_1 : decode cX5_isTold 1 = .ok (.iconst 1, 1) := by decide +kernel
theorem dX5_isTold_2 : decode cX5_isTold 2 = .ok (.if_icmp .eq 8, 3) := by decide +kernel
theorem dX5_isTold_5 : decode cX5_isTold 5 = .ok (.iload_n 0, 1) := by decide +kernel
theorem dX5_isTold_6 : decode cX5_isTold 6 = .ok (.iconst (-1), 1) := by decide +kernel
theorem dX5_isTold_7 : decode cX5_isTold 7 = .ok (.if_icmp .ne 7, 3) := by decide +kernel
theorem dX5_isTold_10 : decode cX5_isTold 10 = .ok (.iconst 1, 1) := by decide +kernel
theorem dX5_isTold_11 : decode cX5_isTold 11 = .ok (.goto 4, 3) := by decide +kernel
theorem dX5_isTold_14 : decode cX5_isTold 14 = .ok (.iconst 0, 1) := by decide +kernel
theorem dX5_isTold_15 : decode cX5_isTold 15 = .ok (.ireturn, 1) := by decide +kernel
theorem dX5_isSlot_0 : decode cX5_isSlot 0 = .ok (.iload_n 0, 1) := by decide +kernel
theorem dX5_isSlot_1 : decode cX5_isSlot 1 = .ok (.iconst 0, 1) := by decide +kernel
theorem dX5_isSlot_2 : decode cX5_isSlot 2 = .ok (.iconst 1, 1) := by decide +kernel
theorem dX5_isSlot_3 : decode cX5_isSlot 3 = .ok (.invokestatic 58, 3) := by decide +kernel
theorem dX5_isSlot_6 : decode cX5_isSlot 6 = .ok (.ireturn, 1) := by decide +kernel
theorem dX5_isLesson_0 : decode cX5_isLesson 0 = .ok (.iload_n 1, 1) := by decide +kernel
theorem dX5_isLesson_1 : decode cX5_isLesson 1 = .ok (.iconst 0, 1) := by decide +kernel
theorem dX5_isLesson_2 : decode cX5_isLesson 2 = .ok (.aload_n 0, 1) := by decide +kernel
theorem dX5_isLesson_3 : decode cX5_isLesson 3 = .ok (.getfield 7, 3) := by decide +kernel
theorem dX5_isLesson_6 : decode cX5_isLesson 6 = .ok (.iconst 0, 1) := by decide +kernel
theorem dX5_isLesson_7 : decode cX5_isLesson 7 = .ok (.iaload, 1) := by decide +kernel
theorem dX5_isLesson_8 : decode cX5_isLesson 8 = .ok (.iconst 1, 1) := by decide +kernel
theorem dX5_isLesson_9 : decode cX5_isLesson 9 = .ok (.isub, 1) := by decide +kernel
theorem dX5_isLesson_10 : decode cX5_isLesson 10 = .ok (.invokestatic 58, 3) := by decide +kernel
theorem dX5_isLesson_13 : decode cX5_isLesson 13 = .ok (.ireturn, 1) := by decide +kernel
theorem dX5_of_0 : decode cX5_of 0 = .ok (.aload_n 0, 1) := by decide +kernel
theorem dX5_of_1 : decode cX5_of 1 = .ok (.getfield 7, 3) := by decide +kernel
theorem dX5_of_4 : decode cX5_of 4 = .ok (.bipush 8, 2) := by decide +kernel
theorem dX5_of_6 : decode cX5_of 6 = .ok (.iconst 3, 1) := by decide +kernel
theorem dX5_of_7 : decode cX5_of 7 = .ok (.iload_n 1, 1) := by decide +kernel
theorem dX5_of_8 : decode cX5_of 8 = .ok (.imul, 1) := by decide +kernel
theorem dX5_of_9 : decode cX5_of 9 = .ok (.iadd, 1) := by decide +kernel
theorem dX5_of_10 : decode cX5_of 10 = .ok (.iload_n 2, 1) := by decide +kernel
theorem dX5_of_11 : decode cX5_of 11 = .ok (.iadd, 1) := by decide +kernel
theorem dX5_of_12 : decode cX5_of 12 = .ok (.iaload, 1) := by decide +kernel
theorem dX5_of_13 : decode cX5_of 13 = .ok (.ireturn, 1) := by decide +kernel
theorem dX5_put_0 : decode cX5_put 0 = .ok (.aload_n 0, 1) := by decide +kernel
theorem dX5_put_1 : decode cX5_put 1 = .ok (.getfield 7, 3) := by decide +kernel
theorem dX5_put_4 : decode cX5_put 4 = .ok (.bipush 8, 2) := by decide +kernel
theorem dX5_put_6 : decode cX5_put 6 = .ok (.iconst 3, 1) := by decide +kernel
theorem dX5_put_7 : decode cX5_put 7 = .ok (.iload_n 1, 1) := by decide +kernel
theorem dX5_put_8 : decode cX5_put 8 = .ok (.imul, 1) := by decide +kernel
theorem dX5_put_9 : decode cX5_put 9 = .ok (.iadd, 1) := by decide +kernel
theorem dX5_put_10 : decode cX5_put 10 = .ok (.iload_n 2, 1) := by decide +kernel
theorem dX5_put_11 : decode cX5_put 11 = .ok (.iadd, 1) := by decide +kernel
theorem dX5_put_12 : decode cX5_put 12 = .ok (.iload_n 3, 1) := by decide +kernel
theorem dX5_put_13 : decode cX5_put 13 = .ok (.iastore, 1) := by decide +kernel
theorem dX5_put_14 : decode cX5_put 14 = .ok (.return_, 1) := by decide +kernel
theorem dX5_ofLesson_0 : decode cX5_ofLesson 0 = .ok (.aload_n 0, 1) := by decide +kernel
theorem dX5_ofLesson_1 : decode cX5_ofLesson 1 = .ok (.getfield 7, 3) := by decide +kernel
theorem dX5_ofLesson_4 : decode cX5_ofLesson 4 = .ok (.bipush 54, 2) := by decide +kernel
theorem dX5_ofLesson_6 : decode cX5_ofLesson 6 = .ok (.iconst 3, 1) := by decide +kernel
theorem dX5_ofLesson_7 : decode cX5_ofLesson 7 = .ok (.iload_n 1, 1) := by decide +kernel
theorem dX5_ofLesson_8 : decode cX5_ofLesson 8 = .ok (.imul, 1) := by decide +kernel
theorem dX5_ofLesson_9 : decode cX5_ofLesson 9 = .ok (.iadd, 1) := by decide +kernel
theorem dX5_ofLesson_10 : decode cX5_ofLesson 10 = .ok (.iload_n 2, 1) := by decide +kernel
theorem dX5_ofLesson_11 : decode cX5_ofLesson 11 = .ok (.iadd, 1) := by decide +kernel
theorem dX5_ofLesson_12 : decode cX5_ofLesson 12 = .ok (.iaload, 1) := by decide +kernel
theorem dX5_ofLesson_13 : decode cX5_ofLesson 13 = .ok (.ireturn, 1) := by decide +kernel
theorem dX5_meeting_0 : decode cX5_meeting 0 = .ok (.iconst 4, 1) := by decide +kernel
theorem dX5_meeting_1 : decode cX5_meeting 1 = .ok (.aload_n 0, 1) := by decide +kernel
theorem dX5_meeting_2 : decode cX5_meeting 2 = .ok (.iload_n 1, 1) := by decide +kernel
theorem dX5_meeting_3 : decode cX5_meeting 3 = .ok (.bipush 10, 2) := by decide +kernel
theorem dX5_meeting_5 : decode cX5_meeting 5 = .ok (.idiv, 1) := by decide +kernel
theorem dX5_meeting_6 : decode cX5_meeting 6 = .ok (.iconst 2, 1) := by decide +kernel
theorem dX5_meeting_7 : decode cX5_meeting 7 = .ok (.invokevirtual 62, 3) := by decide +kernel
theorem dX5_meeting_10 : decode cX5_meeting 10 = .ok (.imul, 1) := by decide +kernel
theorem dX5_meeting_11 : decode cX5_meeting 11 = .ok (.aload_n 0, 1) := by decide +kernel
theorem dX5_meeting_12 : decode cX5_meeting 12 = .ok (.iload_n 1, 1) := by decide +kernel
theorem dX5_meeting_13 : decode cX5_meeting 13 = .ok (.bipush 10, 2) := by decide +kernel
theorem dX5_meeting_15 : decode cX5_meeting 15 = .ok (.irem, 1) := by decide +kernel
theorem dX5_meeting_16 : decode cX5_meeting 16 = .ok (.iconst 1, 1) := by decide +kernel
theorem dX5_meeting_17 : decode cX5_meeting 17 = .ok (.invokevirtual 62, 3) := by decide +kernel
theorem dX5_meeting_20 : decode cX5_meeting 20 = .ok (.iadd, 1) := by decide +kernel
theorem dX5_meeting_21 : decode cX5_meeting 21 = .ok (.ireturn, 1) := by decide +kernel
theorem dX5_copy_0 : decode cX5_copy 0 = .ok (.iconst 0, 1) := by decide +kernel
theorem dX5_copy_1 : decode cX5_copy 1 = .ok (.istore 4, 2) := by decide +kernel
theorem dX5_copy_3 : decode cX5_copy 3 = .ok (.iload 4, 2) := by decide +kernel
theorem dX5_copy_5 : decode cX5_copy 5 = .ok (.sipush 174, 3) := by decide +kernel
theorem dX5_copy_8 : decode cX5_copy 8 = .ok (.if_icmp .ge 21, 3) := by decide +kernel
theorem dX5_copy_11 : decode cX5_copy 11 = .ok (.aload_n 2, 1) := by decide +kernel
theorem dX5_copy_12 : decode cX5_copy 12 = .ok (.iload_n 3, 1) := by decide +kernel
theorem dX5_copy_13 : decode cX5_copy 13 = .ok (.iload 4, 2) := by decide +kernel
theorem dX5_copy_15 : decode cX5_copy 15 = .ok (.iadd, 1) := by decide +kernel
theorem dX5_copy_16 : decode cX5_copy 16 = .ok (.aload_n 0, 1) := by decide +kernel
theorem dX5_copy_17 : decode cX5_copy 17 = .ok (.iload_n 1, 1) := by decide +kernel
theorem dX5_copy_18 : decode cX5_copy 18 = .ok (.iload 4, 2) := by decide +kernel
theorem dX5_copy_20 : decode cX5_copy 20 = .ok (.iadd, 1) := by decide +kernel
theorem dX5_copy_21 : decode cX5_copy 21 = .ok (.iaload, 1) := by decide +kernel
theorem dX5_copy_22 : decode cX5_copy 22 = .ok (.iastore, 1) := by decide +kernel
theorem dX5_copy_23 : decode cX5_copy 23 = .ok (.iinc 4 1, 3) := by decide +kernel
theorem dX5_copy_26 : decode cX5_copy 26 = .ok (.goto (-23), 3) := by decide +kernel
theorem dX5_copy_29 : decode cX5_copy 29 = .ok (.return_, 1) := by decide +kernel
theorem dX5_save_0 : decode cX5_save 0 = .ok (.aload_n 0, 1) := by decide +kernel
theorem dX5_save_1 : decode cX5_save 1 = .ok (.getfield 66, 3) := by decide +kernel
theorem dX5_save_4 : decode cX5_save 4 = .ok (.bipush 6, 2) := by decide +kernel
theorem dX5_save_6 : decode cX5_save 6 = .ok (.if_icmp .ne 44, 3) := by decide +kernel
theorem dX5_save_9 : decode cX5_save 9 = .ok (.iconst 0, 1) := by decide +kernel
theorem dX5_save_10 : decode cX5_save 10 = .ok (.istore_n 1, 1) := by decide +kernel
theorem dX5_save_11 : decode cX5_save 11 = .ok (.iload_n 1, 1) := by decide +kernel
theorem dX5_save_12 : decode cX5_save 12 = .ok (.sipush 870, 3) := by decide +kernel
theorem dX5_save_15 : decode cX5_save 15 = .ok (.if_icmp .ge 25, 3) := by decide +kernel
theorem dX5_save_18 : decode cX5_save 18 = .ok (.aload_n 0, 1) := by decide +kernel
theorem dX5_save_19 : decode cX5_save 19 = .ok (.getfield 13, 3) := by decide +kernel
theorem dX5_save_22 : decode cX5_save 22 = .ok (.iload_n 1, 1) := by decide +kernel
theorem dX5_save_23 : decode cX5_save 23 = .ok (.aload_n 0, 1) := by decide +kernel
theorem dX5_save_24 : decode cX5_save 24 = .ok (.getfield 13, 3) := by decide +kernel
theorem dX5_save_27 : decode cX5_save 27 = .ok (.sipush 174, 3) := by decide +kernel
theorem dX5_save_30 : decode cX5_save 30 = .ok (.iload_n 1, 1) := by decide +kernel
theorem dX5_save_31 : decode cX5_save 31 = .ok (.iadd, 1) := by decide +kernel
theorem dX5_save_32 : decode cX5_save 32 = .ok (.iaload, 1) := by decide +kernel
theorem dX5_save_33 : decode cX5_save 33 = .ok (.iastore, 1) := by decide +kernel
theorem dX5_save_34 : decode cX5_save 34 = .ok (.iinc 1 1, 3) := by decide +kernel
theorem dX5_save_37 : decode cX5_save 37 = .ok (.goto (-26), 3) := by decide +kernel
theorem dX5_save_40 : decode cX5_save 40 = .ok (.aload_n 0, 1) := by decide +kernel
theorem dX5_save_41 : decode cX5_save 41 = .ok (.dup, 1) := by decide +kernel
theorem dX5_save_42 : decode cX5_save 42 = .ok (.getfield 66, 3) := by decide +kernel
theorem dX5_save_45 : decode cX5_save 45 = .ok (.iconst 1, 1) := by decide +kernel
theorem dX5_save_46 : decode cX5_save 46 = .ok (.isub, 1) := by decide +kernel
theorem dX5_save_47 : decode cX5_save 47 = .ok (.putfield 66, 3) := by decide +kernel
theorem dX5_save_50 : decode cX5_save 50 = .ok (.aload_n 0, 1) := by decide +kernel
theorem dX5_save_51 : decode cX5_save 51 = .ok (.getfield 7, 3) := by decide +kernel
theorem dX5_save_54 : decode cX5_save 54 = .ok (.iconst 0, 1) := by decide +kernel
theorem dX5_save_55 : decode cX5_save 55 = .ok (.aload_n 0, 1) := by decide +kernel
theorem dX5_save_56 : decode cX5_save 56 = .ok (.getfield 13, 3) := by decide +kernel
theorem dX5_save_59 : decode cX5_save 59 = .ok (.sipush 174, 3) := by decide +kernel
theorem dX5_save_62 : decode cX5_save 62 = .ok (.aload_n 0, 1) := by decide +kernel
theorem dX5_save_63 : decode cX5_save 63 = .ok (.getfield 66, 3) := by decide +kernel
theorem dX5_save_66 : decode cX5_save 66 = .ok (.imul, 1) := by decide +kernel
theorem dX5_save_67 : decode cX5_save 67 = .ok (.invokestatic 69, 3) := by decide +kernel
theorem dX5_save_70 : decode cX5_save 70 = .ok (.aload_n 0, 1) := by decide +kernel
theorem dX5_save_71 : decode cX5_save 71 = .ok (.dup, 1) := by decide +kernel
theorem dX5_save_72 : decode cX5_save 72 = .ok (.getfield 66, 3) := by decide +kernel
theorem dX5_save_75 : decode cX5_save 75 = .ok (.iconst 1, 1) := by decide +kernel
theorem dX5_save_76 : decode cX5_save 76 = .ok (.iadd, 1) := by decide +kernel
theorem dX5_save_77 : decode cX5_save 77 = .ok (.putfield 66, 3) := by decide +kernel
theorem dX5_save_80 : decode cX5_save 80 = .ok (.return_, 1) := by decide +kernel
theorem dX5_kerningOf_0 : decode cX5_kerningOf 0 = .ok (.aload_n 0, 1) := by decide +kernel
theorem dX5_kerningOf_1 : decode cX5_kerningOf 1 = .ok (.getfield 29, 3) := by decide +kernel
theorem dX5_kerningOf_4 : decode cX5_kerningOf 4 = .ok (.aload_n 0, 1) := by decide +kernel
theorem dX5_kerningOf_5 : decode cX5_kerningOf 5 = .ok (.iload_n 1, 1) := by decide +kernel
theorem dX5_kerningOf_6 : decode cX5_kerningOf 6 = .ok (.invokevirtual 73, 3) := by decide +kernel
theorem dX5_kerningOf_9 : decode cX5_kerningOf 9 = .ok (.iaload, 1) := by decide +kernel
theorem dX5_kerningOf_10 : decode cX5_kerningOf 10 = .ok (.aload_n 0, 1) := by decide +kernel
theorem dX5_kerningOf_11 : decode cX5_kerningOf 11 = .ok (.getfield 32, 3) := by decide +kernel
theorem dX5_kerningOf_14 : decode cX5_kerningOf 14 = .ok (.iload_n 1, 1) := by decide +kernel
theorem dX5_kerningOf_15 : decode cX5_kerningOf 15 = .ok (.iaload, 1) := by decide +kernel
theorem dX5_kerningOf_16 : decode cX5_kerningOf 16 = .ok (.iadd, 1) := by decide +kernel
theorem dX5_kerningOf_17 : decode cX5_kerningOf 17 = .ok (.ireturn, 1) := by decide +kernel
theorem dX5_within_0 : decode cX5_within 0 = .ok (.iload_n 0, 1) := by decide +kernel
theorem dX5_within_1 : decode cX5_within 1 = .ok (.bipush (-12), 2) := by decide +kernel
theorem dX5_within_3 : decode cX5_within 3 = .ok (.if_icmp .ge 8, 3) := by decide +kernel
theorem dX5_within_6 : decode cX5_within 6 = .ok (.bipush (-12), 2) := by decide +kernel
theorem dX5_within_8 : decode cX5_within 8 = .ok (.goto 15, 3) := by decide +kernel
theorem dX5_within_11 : decode cX5_within 11 = .ok (.iload_n 0, 1) := by decide +kernel
theorem dX5_within_12 : decode cX5_within 12 = .ok (.bipush 12, 2) := by decide +kernel
theorem dX5_within_14 : decode cX5_within 14 = .ok (.if_icmp .le 8, 3) := by decide +kernel
theorem dX5_within_17 : decode cX5_within 17 = .ok (.bipush 12, 2) := by decide +kernel
theorem dX5_within_19 : decode cX5_within 19 = .ok (.goto 4, 3) := by decide +kernel
theorem dX5_within_22 : decode cX5_within 22 = .ok (.iload_n 0, 1) := by decide +kernel
theorem dX5_within_23 : decode cX5_within 23 = .ok (.ireturn, 1) := by decide +kernel
theorem dX5_isAtEnd_0 : decode cX5_isAtEnd 0 = .ok (.aload_n 0, 1) := by decide +kernel
theorem dX5_isAtEnd_1 : decode cX5_isAtEnd 1 = .ok (.iload_n 1, 1) := by decide +kernel
theorem dX5_isAtEnd_2 : decode cX5_isAtEnd 2 = .ok (.invokevirtual 77, 3) := by decide +kernel
theorem dX5_isAtEnd_5 : decode cX5_isAtEnd 5 = .ok (.iload_n 2, 1) := by decide +kernel
theorem dX5_isAtEnd_6 : decode cX5_isAtEnd 6 = .ok (.bipush 12, 2) := by decide +kernel
theorem dX5_isAtEnd_8 : decode cX5_isAtEnd 8 = .ok (.imul, 1) := by decide +kernel
theorem dX5_isAtEnd_9 : decode cX5_isAtEnd 9 = .ok (.if_icmp .ne 7, 3) := by decide +kernel
theorem dX5_isAtEnd_12 : decode cX5_isAtEnd 12 = .ok (.iconst 1, 1) := by decide +kernel
theorem dX5_isAtEnd_13 : decode cX5_isAtEnd 13 = .ok (.goto 4, 3) := by decide +kernel
theorem dX5_isAtEnd_16 : decode cX5_isAtEnd 16 = .ok (.iconst 0, 1) := by decide +kernel
theorem dX5_isAtEnd_17 : decode cX5_isAtEnd 17 = .ok (.ireturn, 1) := by decide +kernel
theorem dX5_learnShapes_0 : decode cX5_learnShapes 0 = .ok (.iconst 0, 1) := by decide +kernel
theorem dX5_learnShapes_1 : decode cX5_learnShapes 1 = .ok (.istore_n 3, 1) := by decide +kernel
theorem dX5_learnShapes_2 : decode cX5_learnShapes 2 = .ok (.iconst 0, 1) := by decide +kernel
theorem dX5_learnShapes_3 : decode cX5_learnShapes 3 = .ok (.istore 4, 2) := by decide +kernel
theorem dX5_learnShapes_5 : decode cX5_learnShapes 5 = .ok (.iload 4, 2) := by decide +kernel
theorem dX5_learnShapes_7 : decode cX5_learnShapes 7 = .ok (.bipush 100, 2) := by decide +kernel
theorem dX5_learnShapes_9 : decode cX5_learnShapes 9 = .ok (.if_icmp .ge 49, 3) := by decide +kernel
theorem dX5_learnShapes_12 : decode cX5_learnShapes 12 = .ok (.iload_n 3, 1) := by decide +kernel
theorem dX5_learnShapes_13 : decode cX5_learnShapes 13 = .ok (.aload_n 0, 1) := by decide +kernel
theorem dX5_learnShapes_14 : decode cX5_learnShapes 14 = .ok (.iload 4, 2) := by decide +kernel
theorem dX5_learnShapes_16 : decode cX5_learnShapes 16 = .ok (.invokevirtual 73, 3) := by decide +kernel
theorem dX5_learnShapes_19 : decode cX5_learnShapes 19 = .ok (.iload_n 1, 1) := by decide +kernel
theorem dX5_learnShapes_20 : decode cX5_learnShapes 20 = .ok (.if_icmp .ne 29, 3) := by decide +kernel
theorem dX5_learnShapes_23 : decode cX5_learnShapes 23 = .ok (.aload_n 0, 1) := by decide +kernel
theorem dX5_learnShapes_24 : decode cX5_learnShapes 24 = .ok (.getfield 41, 3) := by decide +kernel
theorem dX5_learnShapes_27 : decode cX5_learnShapes 27 = .ok (.iload 4, 2) := by decide +kernel
theorem dX5_learnShapes_29 : decode cX5_learnShapes 29 = .ok (.iaload, 1) := by decide +kernel
theorem dX5_learnShapes_30 : decode cX5_learnShapes 30 = .ok (.ifCond .le 19, 3) := by decide +kernel
theorem dX5_learnShapes_33 : decode cX5_learnShapes 33 = .ok (.iload_n 2, 1) := by decide +kernel
theorem dX5_learnShapes_34 : decode cX5_learnShapes 34 = .ok (.aload_n 0, 1) := by decide +kernel
theorem dX5_learnShapes_35 : decode cX5_learnShapes 35 = .ok (.getfield 32, 3) := by decide +kernel
theorem dX5_learnShapes_38 : decode cX5_learnShapes 38 = .ok (.iload 4, 2) := by decide +kernel
theorem dX5_learnShapes_40 : decode cX5_learnShapes 40 = .ok (.iaload, 1) := by decide +kernel
theorem dX5_learnShapes_41 : decode cX5_learnShapes 41 = .ok (.imul, 1) := by decide +kernel
theorem dX5_learnShapes_42 : decode cX5_learnShapes 42 = .ok (.ifCond .le 7, 3) := by decide +kernel
theorem dX5_learnShapes_45 : decode cX5_learnShapes 45 = .ok (.iconst 1, 1) := by decide +kernel
theorem dX5_learnShapes_46 : decode cX5_learnShapes 46 = .ok (.goto 4, 3) := by decide +kernel
theorem dX5_learnShapes_49 : decode cX5_learnShapes 49 = .ok (.iconst 0, 1) := by decide +kernel
theorem dX5_learnShapes_50 : decode cX5_learnShapes 50 = .ok (.iadd, 1) := by decide +kernel
theorem dX5_learnShapes_51 : decode cX5_learnShapes 51 = .ok (.istore_n 3, 1) := by decide +kernel
theorem dX5_learnShapes_52 : decode cX5_learnShapes 52 = .ok (.iinc 4 1, 3) := by decide +kernel
theorem dX5_learnShapes_55 : decode cX5_learnShapes 55 = .ok (.goto (-50), 3) := by decide +kernel
theorem dX5_learnShapes_58 : decode cX5_learnShapes 58 = .ok (.iload_n 3, 1) := by decide +kernel
theorem dX5_learnShapes_59 : decode cX5_learnShapes 59 = .ok (.aload_n 0, 1) := by decide +kernel
theorem dX5_learnShapes_60 : decode cX5_learnShapes 60 = .ok (.getfield 7, 3) := by decide +kernel
theorem dX5_learnShapes_63 : decode cX5_learnShapes 63 = .ok (.iconst 2, 1) := by decide +kernel
theorem dX5_learnShapes_64 : decode cX5_learnShapes 64 = .ok (.iaload, 1) := by decide +kernel
theorem dX5_learnShapes_65 : decode cX5_learnShapes 65 = .ok (.if_icmp .lt 77, 3) := by decide +kernel
theorem dX5_learnShapes_68 : decode cX5_learnShapes 68 = .ok (.aload_n 0, 1) := by decide +kernel
theorem dX5_learnShapes_69 : decode cX5_learnShapes 69 = .ok (.getfield 29, 3) := by decide +kernel
theorem dX5_learnShapes_72 : decode cX5_learnShapes 72 = .ok (.iload_n 1, 1) := by decide +kernel
theorem dX5_learnShapes_73 : decode cX5_learnShapes 73 = .ok (.iaload, 1) := by decide +kernel
theorem dX5_learnShapes_74 : decode cX5_learnShapes 74 = .ok (.iload_n 2, 1) := by decide +kernel
theorem dX5_learnShapes_75 : decode cX5_learnShapes 75 = .ok (.bipush 12, 2) := by decide +kernel
theorem dX5_learnShapes_77 : decode cX5_learnShapes 77 = .ok (.imul, 1) := by decide +kernel
theorem dX5_learnShapes_78 : decode cX5_learnShapes 78 = .ok (.if_icmp .eq 64, 3) := by decide +kernel
theorem dX5_learnShapes_81 : decode cX5_learnShapes 81 = .ok (.aload_n 0, 1) := by decide +kernel
theorem dX5_learnShapes_82 : decode cX5_learnShapes 82 = .ok (.getfield 29, 3) := by decide +kernel
theorem dX5_learnShapes_85 : decode cX5_learnShapes 85 = .ok (.iload_n 1, 1) := by decide +kernel
theorem dX5_learnShapes_86 : decode cX5_learnShapes 86 = .ok (.dup2, 1) := by decide +kernel
theorem dX5_learnShapes_87 : decode cX5_learnShapes 87 = .ok (.iaload, 1) := by decide +kernel
theorem dX5_learnShapes_88 : decode cX5_learnShapes 88 = .ok (.iload_n 2, 1) := by decide +kernel
theorem dX5_learnShapes_89 : decode cX5_learnShapes 89 = .ok (.iadd, 1) := by decide +kernel
theorem dX5_learnShapes_90 : decode cX5_learnShapes 90 = .ok (.iastore, 1) := by decide +kernel
theorem dX5_learnShapes_91 : decode cX5_learnShapes 91 = .ok (.iconst 0, 1) := by decide +kernel
theorem dX5_learnShapes_92 : decode cX5_learnShapes 92 = .ok (.istore 4, 2) := by decide +kernel
theorem dX5_learnShapes_94 : decode cX5_learnShapes 94 = .ok (.iload 4, 2) := by decide +kernel
theorem dX5_learnShapes_96 : decode cX5_learnShapes 96 = .ok (.bipush 100, 2) := by decide +kernel
theorem dX5_learnShapes_98 : decode cX5_learnShapes 98 = .ok (.if_icmp .ge 44, 3) := by decide +kernel
theorem dX5_learnShapes_101 : decode cX5_learnShapes 101 = .ok (.aload_n 0, 1) := by decide +kernel
theorem dX5_learnShapes_102 : decode cX5_learnShapes 102 = .ok (.getfield 32, 3) := by decide +kernel
theorem dX5_learnShapes_105 : decode cX5_learnShapes 105 = .ok (.iload 4, 2) := by decide +kernel
theorem dX5_learnShapes_107 : decode cX5_learnShapes 107 = .ok (.dup2, 1) := by decide +kernel
theorem dX5_learnShapes_108 : decode cX5_learnShapes 108 = .ok (.iaload, 1) := by decide +kernel
theorem dX5_learnShapes_109 : decode cX5_learnShapes 109 = .ok (.aload_n 0, 1) := by decide +kernel
theorem dX5_learnShapes_110 : decode cX5_learnShapes 110 = .ok (.iload 4, 2) := by decide +kernel
theorem dX5_learnShapes_112 : decode cX5_learnShapes 112 = .ok (.invokevirtual 73, 3) := by decide +kernel
theorem dX5_learnShapes_115 : decode cX5_learnShapes 115 = .ok (.iload_n 1, 1) := by decide +kernel
theorem dX5_learnShapes_116 : decode cX5_learnShapes 116 = .ok (.if_icmp .ne 17, 3) := by decide +kernel
theorem dX5_learnShapes_119 : decode cX5_learnShapes 119 = .ok (.aload_n 0, 1) := by decide +kernel
theorem dX5_learnShapes_120 : decode cX5_learnShapes 120 = .ok (.getfield 41, 3) := by decide +kernel
theorem dX5_learnShapes_123 : decode cX5_learnShapes 123 = .ok (.iload 4, 2) := by decide +kernel
theorem dX5_learnShapes_125 : decode cX5_learnShapes 125 = .ok (.iaload, 1) := by decide +kernel
theorem dX5_learnShapes_126 : decode cX5_learnShapes 126 = .ok (.ifCond .le 7, 3) := by decide +kernel
theorem dX5_learnShapes_129 : decode cX5_learnShapes 129 = .ok (.iload_n 2, 1) := by decide +kernel
theorem dX5_learnShapes_130 : decode cX5_learnShapes 130 = .ok (.goto 4, 3) := by decide +kernel
theorem dX5_learnShapes_133 : decode cX5_learnShapes 133 = .ok (.iconst 0, 1) := by decide +kernel
theorem dX5_learnShapes_134 : decode cX5_learnShapes 134 = .ok (.isub, 1) := by decide +kernel
theorem dX5_learnShapes_135 : decode cX5_learnShapes 135 = .ok (.iastore, 1) := by decide +kernel
theorem dX5_learnShapes_136 : decode cX5_learnShapes 136 = .ok (.iinc 4 1, 3) := by decide +kernel
theorem dX5_learnShapes_139 : decode cX5_learnShapes 139 = .ok (.goto (-45), 3) := by decide +kernel
theorem dX5_learnShapes_142 : decode cX5_learnShapes 142 = .ok (.return_, 1) := by decide +kernel
theorem dX5_learn_0 : decode cX5_learn 0 = .ok (.bipush 10, 2) := by decide +kernel
theorem dX5_learn_2 : decode cX5_learn 2 = .ok (.aload_n 0, 1) := by decide +kernel
theorem dX5_learn_3 : decode cX5_learn 3 = .ok (.iload_n 1, 1) := by decide +kernel
theorem dX5_learn_4 : decode cX5_learn 4 = .ok (.iconst 0, 1) := by decide +kernel
theorem dX5_learn_5 : decode cX5_learn 5 = .ok (.invokevirtual 80, 3) := by decide +kernel
theorem dX5_learn_8 : decode cX5_learn 8 = .ok (.imul, 1) := by decide +kernel
theorem dX5_learn_9 : decode cX5_learn 9 = .ok (.aload_n 0, 1) := by decide +kernel
theorem dX5_learn_10 : decode cX5_learn 10 = .ok (.iload_n 1, 1) := by decide +kernel
theorem dX5_learn_11 : decode cX5_learn 11 = .ok (.iconst 1, 1) := by decide +kernel
theorem dX5_learn_12 : decode cX5_learn 12 = .ok (.invokevirtual 80, 3) := by decide +kernel
theorem dX5_learn_15 : decode cX5_learn 15 = .ok (.iadd, 1) := by decide +kernel
theorem dX5_learn_16 : decode cX5_learn 16 = .ok (.istore_n 2, 1) := by decide +kernel
theorem dX5_learn_17 : decode cX5_learn 17 = .ok (.aload_n 0, 1) := by decide +kernel
theorem dX5_learn_18 : decode cX5_learn 18 = .ok (.iload_n 1, 1) := by decide +kernel
theorem dX5_learn_19 : decode cX5_learn 19 = .ok (.iconst 2, 1) := by decide +kernel
theorem dX5_learn_20 : decode cX5_learn 20 = .ok (.invokevirtual 80, 3) := by decide +kernel
theorem dX5_learn_23 : decode cX5_learn 23 = .ok (.istore_n 3, 1) := by decide +kernel
theorem dX5_learn_24 : decode cX5_learn 24 = .ok (.aload_n 0, 1) := by decide +kernel
theorem dX5_learn_25 : decode cX5_learn 25 = .ok (.getfield 44, 3) := by decide +kernel
theorem dX5_learn_28 : decode cX5_learn 28 = .ok (.iload_n 1, 1) := by decide +kernel
theorem dX5_learn_29 : decode cX5_learn 29 = .ok (.aload_n 0, 1) := by decide +kernel
theorem dX5_learn_30 : decode cX5_learn 30 = .ok (.iload_n 2, 1) := by decide +kernel
theorem dX5_learn_31 : decode cX5_learn 31 = .ok (.iload_n 3, 1) := by decide +kernel
theorem dX5_learn_32 : decode cX5_learn 32 = .ok (.invokevirtual 83, 3) := by decide +kernel
theorem dX5_learn_35 : decode cX5_learn 35 = .ok (.bastore, 1) := by decide +kernel
theorem dX5_learn_36 : decode cX5_learn 36 = .ok (.aload_n 0, 1) := by decide +kernel
theorem dX5_learn_37 : decode cX5_learn 37 = .ok (.getfield 44, 3) := by decide +kernel
theorem dX5_learn_40 : decode cX5_learn 40 = .ok (.iload_n 1, 1) := by decide +kernel
theorem dX5_learn_41 : decode cX5_learn 41 = .ok (.baload, 1) := by decide +kernel
theorem dX5_learn_42 : decode cX5_learn 42 = .ok (.ifCond .eq 4, 3) := by decide +kernel
theorem dX5_learn_45 : decode cX5_learn 45 = .ok (.return_, 1) := by decide +kernel
theorem dX5_learn_46 : decode cX5_learn 46 = .ok (.aload_n 0, 1) := by decide +kernel
theorem dX5_learn_47 : decode cX5_learn 47 = .ok (.getfield 41, 3) := by decide +kernel
theorem dX5_learn_50 : decode cX5_learn 50 = .ok (.iload_n 2, 1) := by decide +kernel
theorem dX5_learn_51 : decode cX5_learn 51 = .ok (.iaload, 1) := by decide +kernel
theorem dX5_learn_52 : decode cX5_learn 52 = .ok (.ifCond .ne 18, 3) := by decide +kernel
theorem dX5_learn_55 : decode cX5_learn 55 = .ok (.aload_n 0, 1) := by decide +kernel
theorem dX5_learn_56 : decode cX5_learn 56 = .ok (.getfield 35, 3) := by decide +kernel
theorem dX5_learn_59 : decode cX5_learn 59 = .ok (.iload_n 2, 1) := by decide +kernel
theorem dX5_learn_60 : decode cX5_learn 60 = .ok (.aload_n 0, 1) := by decide +kernel
theorem dX5_learn_61 : decode cX5_learn 61 = .ok (.getfield 7, 3) := by decide +kernel
theorem dX5_learn_64 : decode cX5_learn 64 = .ok (.iconst 1, 1) := by decide +kernel
theorem dX5_learn_65 : decode cX5_learn 65 = .ok (.iaload, 1) := by decide +kernel
theorem dX5_learn_66 : decode cX5_learn 66 = .ok (.iastore, 1) := by decide +kernel
theorem dX5_learn_67 : decode cX5_learn 67 = .ok (.goto 41, 3) := by decide +kernel
theorem dX5_learn_70 : decode cX5_learn 70 = .ok (.aload_n 0, 1) := by decide +kernel
theorem dX5_learn_71 : decode cX5_learn 71 = .ok (.getfield 38, 3) := by decide +kernel
theorem dX5_learn_74 : decode cX5_learn 74 = .ok (.iload_n 2, 1) := by decide +kernel
theorem dX5_learn_75 : decode cX5_learn 75 = .ok (.iaload, 1) := by decide +kernel
theorem dX5_learn_76 : decode cX5_learn 76 = .ok (.iload_n 3, 1) := by decide +kernel
theorem dX5_learn_77 : decode cX5_learn 77 = .ok (.if_icmp .eq 31, 3) := by decide +kernel
theorem dX5_learn_80 : decode cX5_learn 80 = .ok (.aload_n 0, 1) := by decide +kernel
theorem dX5_learn_81 : decode cX5_learn 81 = .ok (.getfield 35, 3) := by decide +kernel
theorem dX5_learn_84 : decode cX5_learn 84 = .ok (.iload_n 2, 1) := by decide +kernel
theorem dX5_learn_85 : decode cX5_learn 85 = .ok (.aload_n 0, 1) := by decide +kernel
theorem dX5_learn_86 : decode cX5_learn 86 = .ok (.getfield 35, 3) := by decide +kernel
theorem dX5_learn_89 : decode cX5_learn 89 = .ok (.iload_n 2, 1) := by decide +kernel
theorem dX5_learn_90 : decode cX5_learn 90 = .ok (.iaload, 1) := by decide +kernel
theorem dX5_learn_91 : decode cX5_learn 91 = .ok (.iconst 1, 1) := by decide +kernel
theorem dX5_learn_92 : decode cX5_learn 92 = .ok (.if_icmp .le 14, 3) := by decide +kernel
theorem dX5_learn_95 : decode cX5_learn 95 = .ok (.aload_n 0, 1) := by decide +kernel
theorem dX5_learn_96 : decode cX5_learn 96 = .ok (.getfield 35, 3) := by decide +kernel
theorem dX5_learn_99 : decode cX5_learn 99 = .ok (.iload_n 2, 1) := by decide +kernel
theorem dX5_learn_100 : decode cX5_learn 100 = .ok (.iaload, 1) := by decide +kernel
theorem dX5_learn_101 : decode cX5_learn 101 = .ok (.iconst 2, 1) := by decide +kernel
theorem dX5_learn_102 : decode cX5_learn 102 = .ok (.idiv, 1) := by decide +kernel
theorem dX5_learn_103 : decode cX5_learn 103 = .ok (.goto 4, 3) := by decide +kernel
theorem dX5_learn_106 : decode cX5_learn 106 = .ok (.iconst 1, 1) := by decide +kernel
theorem dX5_learn_107 : decode cX5_learn 107 = .ok (.iastore, 1) := by decide +kernel
theorem dX5_learn_108 : decode cX5_learn 108 = .ok (.aload_n 0, 1) := by decide +kernel
theorem dX5_learn_109 : decode cX5_learn 109 = .ok (.getfield 38, 3) := by decide +kernel
theorem dX5_learn_112 : decode cX5_learn 112 = .ok (.iload_n 2, 1) := by decide +kernel
theorem dX5_learn_113 : decode cX5_learn 113 = .ok (.iload_n 3, 1) := by decide +kernel
theorem dX5_learn_114 : decode cX5_learn 114 = .ok (.iastore, 1) := by decide +kernel
theorem dX5_learn_115 : decode cX5_learn 115 = .ok (.aload_n 0, 1) := by decide +kernel
theorem dX5_learn_116 : decode cX5_learn 116 = .ok (.getfield 41, 3) := by decide +kernel
theorem dX5_learn_119 : decode cX5_learn 119 = .ok (.iload_n 2, 1) := by decide +kernel
theorem dX5_learn_120 : decode cX5_learn 120 = .ok (.dup2, 1) := by decide +kernel
theorem dX5_learn_121 : decode cX5_learn 121 = .ok (.iaload, 1) := by decide +kernel
theorem dX5_learn_122 : decode cX5_learn 122 = .ok (.iconst 1, 1) := by decide +kernel
theorem dX5_learn_123 : decode cX5_learn 123 = .ok (.iadd, 1) := by decide +kernel
theorem dX5_learn_124 : decode cX5_learn 124 = .ok (.iastore, 1) := by decide +kernel
theorem dX5_learn_125 : decode cX5_learn 125 = .ok (.aload_n 0, 1) := by decide +kernel
theorem dX5_learn_126 : decode cX5_learn 126 = .ok (.getfield 32, 3) := by decide +kernel
theorem dX5_learn_129 : decode cX5_learn 129 = .ok (.iload_n 2, 1) := by decide +kernel
theorem dX5_learn_130 : decode cX5_learn 130 = .ok (.aload_n 0, 1) := by decide +kernel
theorem dX5_learn_131 : decode cX5_learn 131 = .ok (.iload_n 2, 1) := by decide +kernel
theorem dX5_learn_132 : decode cX5_learn 132 = .ok (.invokevirtual 77, 3) := by decide +kernel
theorem dX5_learn_135 : decode cX5_learn 135 = .ok (.iload_n 3, 1) := by decide +kernel
theorem dX5_learn_136 : decode cX5_learn 136 = .ok (.aload_n 0, 1) := by decide +kernel
theorem dX5_learn_137 : decode cX5_learn 137 = .ok (.getfield 35, 3) := by decide +kernel
theorem dX5_learn_140 : decode cX5_learn 140 = .ok (.iload_n 2, 1) := by decide +kernel
theorem dX5_learn_141 : decode cX5_learn 141 = .ok (.iaload, 1) := by decide +kernel
theorem dX5_learn_142 : decode cX5_learn 142 = .ok (.imul, 1) := by decide +kernel
theorem dX5_learn_143 : decode cX5_learn 143 = .ok (.iadd, 1) := by decide +kernel
theorem dX5_learn_144 : decode cX5_learn 144 = .ok (.invokestatic 87, 3) := by decide +kernel
theorem dX5_learn_147 : decode cX5_learn 147 = .ok (.aload_n 0, 1) := by decide +kernel
theorem dX5_learn_148 : decode cX5_learn 148 = .ok (.getfield 29, 3) := by decide +kernel
theorem dX5_learn_151 : decode cX5_learn 151 = .ok (.aload_n 0, 1) := by decide +kernel
theorem dX5_learn_152 : decode cX5_learn 152 = .ok (.iload_n 2, 1) := by decide +kernel
theorem dX5_learn_153 : decode cX5_learn 153 = .ok (.invokevirtual 73, 3) := by decide +kernel
theorem dX5_learn_156 : decode cX5_learn 156 = .ok (.iaload, 1) := by decide +kernel
theorem dX5_learn_157 : decode cX5_learn 157 = .ok (.isub, 1) := by decide +kernel
theorem dX5_learn_158 : decode cX5_learn 158 = .ok (.iastore, 1) := by decide +kernel
theorem dX5_learn_159 : decode cX5_learn 159 = .ok (.aload_n 0, 1) := by decide +kernel
theorem dX5_learn_160 : decode cX5_learn 160 = .ok (.aload_n 0, 1) := by decide +kernel
theorem dX5_learn_161 : decode cX5_learn 161 = .ok (.iload_n 2, 1) := by decide +kernel
theorem dX5_learn_162 : decode cX5_learn 162 = .ok (.invokevirtual 73, 3) := by decide +kernel
theorem dX5_learn_165 : decode cX5_learn 165 = .ok (.iload_n 3, 1) := by decide +kernel
theorem dX5_learn_166 : decode cX5_learn 166 = .ok (.invokevirtual 90, 3) := by decide +kernel
theorem dX5_learn_169 : decode cX5_learn 169 = .ok (.return_, 1) := by decide +kernel
theorem dX5_learnAll_0 : decode cX5_learnAll 0 = .ok (.iconst 0, 1) := by decide +kernel
theorem dX5_learnAll_1 : decode cX5_learnAll 1 = .ok (.istore_n 1, 1) := by decide +kernel
theorem dX5_learnAll_2 : decode cX5_learnAll 2 = .ok (.iload_n 1, 1) := by decide +kernel
theorem dX5_learnAll_3 : decode cX5_learnAll 3 = .ok (.bipush 16, 2) := by decide +kernel
theorem dX5_learnAll_5 : decode cX5_learnAll 5 = .ok (.if_icmp .ge 24, 3) := by decide +kernel
theorem dX5_learnAll_8 : decode cX5_learnAll 8 = .ok (.aload_n 0, 1) := by decide +kernel
theorem dX5_learnAll_9 : decode cX5_learnAll 9 = .ok (.getfield 29, 3) := by decide +kernel
theorem dX5_learnAll_12 : decode cX5_learnAll 12 = .ok (.iload_n 1, 1) := by decide +kernel
theorem dX5_learnAll_13 : decode cX5_learnAll 13 = .ok (.aload_n 0, 1) := by decide +kernel
theorem dX5_learnAll_14 : decode cX5_learnAll 14 = .ok (.getfield 7, 3) := by decide +kernel
theorem dX5_learnAll_17 : decode cX5_learnAll 17 = .ok (.bipush 38, 2) := by decide +kernel
theorem dX5_learnAll_19 : decode cX5_learnAll 19 = .ok (.iload_n 1, 1) := by decide +kernel
theorem dX5_learnAll_20 : decode cX5_learnAll 20 = .ok (.iadd, 1) := by decide +kernel
theorem dX5_learnAll_21 : decode cX5_learnAll 21 = .ok (.iaload, 1) := by decide +kernel
theorem dX5_learnAll_22 : decode cX5_learnAll 22 = .ok (.iastore, 1) := by decide +kernel
theorem dX5_learnAll_23 : decode cX5_learnAll 23 = .ok (.iinc 1 1, 3) := by decide +kernel
theorem dX5_learnAll_26 : decode cX5_learnAll 26 = .ok (.goto (-24), 3) := by decide +kernel
theorem dX5_learnAll_29 : decode cX5_learnAll 29 = .ok (.iconst 0, 1) := by decide +kernel
theorem dX5_learnAll_30 : decode cX5_learnAll 30 = .ok (.istore_n 1, 1) := by decide +kernel
theorem dX5_learnAll_31 : decode cX5_learnAll 31 = .ok (.iload_n 1, 1) := by decide +kernel
theorem dX5_learnAll_32 : decode cX5_learnAll 32 = .ok (.bipush 100, 2) := by decide +kernel
theorem dX5_learnAll_34 : decode cX5_learnAll 34 = .ok (.if_icmp .ge 30, 3) := by decide +kernel
theorem dX5_learnAll_37 : decode cX5_learnAll 37 = .ok (.aload_n 0, 1) := by decide +kernel
theorem dX5_learnAll_38 : decode cX5_learnAll 38 = .ok (.getfield 32, 3) := by decide +kernel
theorem dX5_learnAll_41 : decode cX5_learnAll 41 = .ok (.iload_n 1, 1) := by decide +kernel
theorem dX5_learnAll_42 : decode cX5_learnAll 42 = .ok (.iconst 0, 1) := by decide +kernel
theorem dX5_learnAll_43 : decode cX5_learnAll 43 = .ok (.iastore, 1) := by decide +kernel
theorem dX5_learnAll_44 : decode cX5_learnAll 44 = .ok (.aload_n 0, 1) := by decide +kernel
theorem dX5_learnAll_45 : decode cX5_learnAll 45 = .ok (.getfield 35, 3) := by decide +kernel
theorem dX5_learnAll_48 : decode cX5_learnAll 48 = .ok (.iload_n 1, 1) := by decide +kernel
theorem dX5_learnAll_49 : decode cX5_learnAll 49 = .ok (.iconst 0, 1) := by decide +kernel
theorem dX5_learnAll_50 : decode cX5_learnAll 50 = .ok (.iastore, 1) := by decide +kernel
theorem dX5_learnAll_51 : decode cX5_learnAll 51 = .ok (.aload_n 0, 1) := by decide +kernel
theorem dX5_learnAll_52 : decode cX5_learnAll 52 = .ok (.getfield 41, 3) := by decide +kernel
theorem dX5_learnAll_55 : decode cX5_learnAll 55 = .ok (.iload_n 1, 1) := by decide +kernel
theorem dX5_learnAll_56 : decode cX5_learnAll 56 = .ok (.iconst 0, 1) := by decide +kernel
theorem dX5_learnAll_57 : decode cX5_learnAll 57 = .ok (.iastore, 1) := by decide +kernel
theorem dX5_learnAll_58 : decode cX5_learnAll 58 = .ok (.iinc 1 1, 3) := by decide +kernel
theorem dX5_learnAll_61 : decode cX5_learnAll 61 = .ok (.goto (-30), 3) := by decide +kernel
theorem dX5_learnAll_64 : decode cX5_learnAll 64 = .ok (.iconst 0, 1) := by decide +kernel
theorem dX5_learnAll_65 : decode cX5_learnAll 65 = .ok (.istore_n 1, 1) := by decide +kernel
theorem dX5_learnAll_66 : decode cX5_learnAll 66 = .ok (.iload_n 1, 1) := by decide +kernel
theorem dX5_learnAll_67 : decode cX5_learnAll 67 = .ok (.aload_n 0, 1) := by decide +kernel
theorem dX5_learnAll_68 : decode cX5_learnAll 68 = .ok (.getfield 7, 3) := by decide +kernel
theorem dX5_learnAll_71 : decode cX5_learnAll 71 = .ok (.iconst 0, 1) := by decide +kernel
theorem dX5_learnAll_72 : decode cX5_learnAll 72 = .ok (.iaload, 1) := by decide +kernel
theorem dX5_learnAll_73 : decode cX5_learnAll 73 = .ok (.if_icmp .ge 14, 3) := by decide +kernel
theorem dX5_learnAll_76 : decode cX5_learnAll 76 = .ok (.aload_n 0, 1) := by decide +kernel
theorem dX5_learnAll_77 : decode cX5_learnAll 77 = .ok (.iload_n 1, 1) := by decide +kernel
theorem dX5_learnAll_78 : decode cX5_learnAll 78 = .ok (.invokevirtual 94, 3) := by decide +kernel
theorem dX5_learnAll_81 : decode cX5_learnAll 81 = .ok (.iinc 1 1, 3) := by decide +kernel
theorem dX5_learnAll_84 : decode cX5_learnAll 84 = .ok (.goto (-18), 3) := by decide +kernel
theorem dX5_learnAll_87 : decode cX5_learnAll 87 = .ok (.return_, 1) := by decide +kernel
theorem dX5_noteKernings_0 : decode cX5_noteKernings 0 = .ok (.iconst 0, 1) := by decide +kernel
theorem dX5_noteKernings_1 : decode cX5_noteKernings 1 = .ok (.istore_n 1, 1) := by decide +kernel
theorem dX5_noteKernings_2 : decode cX5_noteKernings 2 = .ok (.iload_n 1, 1) := by decide +kernel
theorem dX5_noteKernings_3 : decode cX5_noteKernings 3 = .ok (.bipush 100, 2) := by decide +kernel
theorem dX5_noteKernings_5 : decode cX5_noteKernings 5 = .ok (.if_icmp .ge 20, 3) := by decide +kernel
theorem dX5_noteKernings_8 : decode cX5_noteKernings 8 = .ok (.aload_n 0, 1) := by decide +kernel
theorem dX5_noteKernings_9 : decode cX5_noteKernings 9 = .ok (.getfield 47, 3) := by decide +kernel
theorem dX5_noteKernings_12 : decode cX5_noteKernings 12 = .ok (.iload_n 1, 1) := by decide +kernel
theorem dX5_noteKernings_13 : decode cX5_noteKernings 13 = .ok (.aload_n 0, 1) := by decide +kernel
theorem dX5_noteKernings_14 : decode cX5_noteKernings 14 = .ok (.iload_n 1, 1) := by decide +kernel
theorem dX5_noteKernings_15 : decode cX5_noteKernings 15 = .ok (.invokevirtual 77, 3) := by decide +kernel
theorem dX5_noteKernings_18 : decode cX5_noteKernings 18 = .ok (.iastore, 1) := by decide +kernel
theorem dX5_noteKernings_19 : decode cX5_noteKernings 19 = .ok (.iinc 1 1, 3) := by decide +kernel
theorem dX5_noteKernings_22 : decode cX5_noteKernings 22 = .ok (.goto (-20), 3) := by decide +kernel
theorem dX5_noteKernings_25 : decode cX5_noteKernings 25 = .ok (.return_, 1) := by decide +kernel
theorem dX5_otherKernings_0 : decode cX5_otherKernings 0 = .ok (.iconst 0, 1) := by decide +kernel
theorem dX5_otherKernings_1 : decode cX5_otherKernings 1 = .ok (.istore_n 1, 1) := by decide +kernel
theorem dX5_otherKernings_2 : decode cX5_otherKernings 2 = .ok (.iconst 0, 1) := by decide +kernel
theorem dX5_otherKernings_3 : decode cX5_otherKernings 3 = .ok (.istore_n 2, 1) := by decide +kernel
theorem dX5_otherKernings_4 : decode cX5_otherKernings 4 = .ok (.iload_n 2, 1) := by decide +kernel
theorem dX5_otherKernings_5 : decode cX5_otherKernings 5 = .ok (.bipush 100, 2) := by decide +kernel
theorem dX5_otherKernings_7 : decode cX5_otherKernings 7 = .ok (.if_icmp .ge 31, 3) := by decide +kernel
theorem dX5_otherKernings_10 : decode cX5_otherKernings 10 = .ok (.iload_n 1, 1) := by decide +kernel
theorem dX5_otherKernings_11 : decode cX5_otherKernings 11 = .ok (.aload_n 0, 1) := by decide +kernel
theorem dX5_otherKernings_12 : decode cX5_otherKernings 12 = .ok (.getfield 47, 3) := by decide +kernel
theorem dX5_otherKernings_15 : decode cX5_otherKernings 15 = .ok (.iload_n 2, 1) := by decide +kernel
theorem dX5_otherKernings_16 : decode cX5_otherKernings 16 = .ok (.iaload, 1) := by decide +kernel
theorem dX5_otherKernings_17 : decode cX5_otherKernings 17 = .ok (.aload_n 0, 1) := by decide +kernel
theorem dX5_otherKernings_18 : decode cX5_otherKernings 18 = .ok (.iload_n 2, 1) := by decide +kernel
theorem dX5_otherKernings_19 : decode cX5_otherKernings 19 = .ok (.invokevirtual 77, 3) := by decide +kernel
theorem dX5_otherKernings_22 : decode cX5_otherKernings 22 = .ok (.if_icmp .eq 7, 3) := by decide +kernel
theorem dX5_otherKernings_25 : decode cX5_otherKernings 25 = .ok (.iconst 1, 1) := by decide +kernel
theorem dX5_otherKernings_26 : decode cX5_otherKernings 26 = .ok (.goto 4, 3) := by decide +kernel
theorem dX5_otherKernings_29 : decode cX5_otherKernings 29 = .ok (.iconst 0, 1) := by decide +kernel
theorem dX5_otherKernings_30 : decode cX5_otherKernings 30 = .ok (.iadd, 1) := by decide +kernel
theorem dX5_otherKernings_31 : decode cX5_otherKernings 31 = .ok (.istore_n 1, 1) := by decide +kernel
theorem dX5_otherKernings_32 : decode cX5_otherKernings 32 = .ok (.iinc 2 1, 3) := by decide +kernel
theorem dX5_otherKernings_35 : decode cX5_otherKernings 35 = .ok (.goto (-31), 3) := by decide +kernel
theorem dX5_otherKernings_38 : decode cX5_otherKernings 38 = .ok (.iload_n 1, 1) := by decide +kernel
theorem dX5_otherKernings_39 : decode cX5_otherKernings 39 = .ok (.ireturn, 1) := by decide +kernel
theorem dX5_isRefused_0 : decode cX5_isRefused 0 = .ok (.aload_n 0, 1) := by decide +kernel
theorem dX5_isRefused_1 : decode cX5_isRefused 1 = .ok (.invokevirtual 98, 3) := by decide +kernel
theorem dX5_isRefused_4 : decode cX5_isRefused 4 = .ok (.aload_n 0, 1) := by decide +kernel
theorem dX5_isRefused_5 : decode cX5_isRefused 5 = .ok (.getfield 7, 3) := by decide +kernel
theorem dX5_isRefused_8 : decode cX5_isRefused 8 = .ok (.iconst 0, 1) := by decide +kernel
theorem dX5_isRefused_9 : decode cX5_isRefused 9 = .ok (.iaload, 1) := by decide +kernel
theorem dX5_isRefused_10 : decode cX5_isRefused 10 = .ok (.bipush 40, 2) := by decide +kernel
theorem dX5_isRefused_12 : decode cX5_isRefused 12 = .ok (.if_icmp .eq 12, 3) := by decide +kernel
theorem dX5_isRefused_15 : decode cX5_isRefused 15 = .ok (.aload_n 0, 1) := by decide +kernel
theorem dX5_isRefused_16 : decode cX5_isRefused 16 = .ok (.iload_n 1, 1) := by decide +kernel
theorem dX5_isRefused_17 : decode cX5_isRefused 17 = .ok (.iload_n 2, 1) := by decide +kernel
theorem dX5_isRefused_18 : decode cX5_isRefused 18 = .ok (.invokevirtual 83, 3) := by decide +kernel
theorem dX5_isRefused_21 : decode cX5_isRefused 21 = .ok (.ifCond .eq 7, 3) := by decide +kernel
theorem dX5_isRefused_24 : decode cX5_isRefused 24 = .ok (.iconst 1, 1) := by decide +kernel
theorem dX5_isRefused_25 : decode cX5_isRefused 25 = .ok (.goto 4, 3) := by decide +kernel
theorem dX5_isRefused_28 : decode cX5_isRefused 28 = .ok (.iconst 0, 1) := by decide +kernel
theorem dX5_isRefused_29 : decode cX5_isRefused 29 = .ok (.ireturn, 1) := by decide +kernel
theorem dX5_add_0 : decode cX5_add 0 = .ok (.bipush 54, 2) := by decide +kernel
theorem dX5_add_2 : decode cX5_add 2 = .ok (.iconst 3, 1) := by decide +kernel
theorem dX5_add_3 : decode cX5_add 3 = .ok (.aload_n 0, 1) := by decide +kernel
theorem dX5_add_4 : decode cX5_add 4 = .ok (.getfield 7, 3) := by decide +kernel
theorem dX5_add_7 : decode cX5_add 7 = .ok (.iconst 0, 1) := by decide +kernel
theorem dX5_add_8 : decode cX5_add 8 = .ok (.iaload, 1) := by decide +kernel
theorem dX5_add_9 : decode cX5_add 9 = .ok (.imul, 1) := by decide +kernel
theorem dX5_add_10 : decode cX5_add 10 = .ok (.iadd, 1) := by decide +kernel
theorem dX5_add_11 : decode cX5_add 11 = .ok (.istore_n 3, 1) := by decide +kernel
theorem dX5_add_12 : decode cX5_add 12 = .ok (.aload_n 0, 1) := by decide +kernel
theorem dX5_add_13 : decode cX5_add 13 = .ok (.getfield 7, 3) := by decide +kernel
theorem dX5_add_16 : decode cX5_add 16 = .ok (.iload_n 3, 1) := by decide +kernel
theorem dX5_add_17 : decode cX5_add 17 = .ok (.iconst 0, 1) := by decide +kernel
theorem dX5_add_18 : decode cX5_add 18 = .ok (.iadd, 1) := by decide +kernel
theorem dX5_add_19 : decode cX5_add 19 = .ok (.iload_n 1, 1) := by decide +kernel
theorem dX5_add_20 : decode cX5_add 20 = .ok (.bipush 10, 2) := by decide +kernel
theorem dX5_add_22 : decode cX5_add 22 = .ok (.idiv, 1) := by decide +kernel
theorem dX5_add_23 : decode cX5_add 23 = .ok (.iastore, 1) := by decide +kernel
theorem dX5_add_24 : decode cX5_add 24 = .ok (.aload_n 0, 1) := by decide +kernel
theorem dX5_add_25 : decode cX5_add 25 = .ok (.getfield 7, 3) := by decide +kernel
theorem dX5_add_28 : decode cX5_add 28 = .ok (.iload_n 3, 1) := by decide +kernel
theorem dX5_add_29 : decode cX5_add 29 = .ok (.iconst 1, 1) := by decide +kernel
theorem dX5_add_30 : decode cX5_add 30 = .ok (.iadd, 1) := by decide +kernel
theorem dX5_add_31 : decode cX5_add 31 = .ok (.iload_n 1, 1) := by decide +kernel
theorem dX5_add_32 : decode cX5_add 32 = .ok (.bipush 10, 2) := by decide +kernel
theorem dX5_add_34 : decode cX5_add 34 = .ok (.irem, 1) := by decide +kernel
theorem dX5_add_35 : decode cX5_add 35 = .ok (.iastore, 1) := by decide +kernel
theorem dX5_add_36 : decode cX5_add 36 = .ok (.aload_n 0, 1) := by decide +kernel
theorem dX5_add_37 : decode cX5_add 37 = .ok (.getfield 7, 3) := by decide +kernel
theorem dX5_add_40 : decode cX5_add 40 = .ok (.iload_n 3, 1) := by decide +kernel
theorem dX5_add_41 : decode cX5_add 41 = .ok (.iconst 2, 1) := by decide +kernel
theorem dX5_add_42 : decode cX5_add 42 = .ok (.iadd, 1) := by decide +kernel
theorem dX5_add_43 : decode cX5_add 43 = .ok (.iload_n 2, 1) := by decide +kernel
theorem dX5_add_44 : decode cX5_add 44 = .ok (.iastore, 1) := by decide +kernel
theorem dX5_add_45 : decode cX5_add 45 = .ok (.aload_n 0, 1) := by decide +kernel
theorem dX5_add_46 : decode cX5_add 46 = .ok (.getfield 7, 3) := by decide +kernel
theorem dX5_add_49 : decode cX5_add 49 = .ok (.iconst 0, 1) := by decide +kernel
theorem dX5_add_50 : decode cX5_add 50 = .ok (.dup2, 1) := by decide +kernel
theorem dX5_add_51 : decode cX5_add 51 = .ok (.iaload, 1) := by decide +kernel
theorem dX5_add_52 : decode cX5_add 52 = .ok (.iconst 1, 1) := by decide +kernel
theorem dX5_add_53 : decode cX5_add 53 = .ok (.iadd, 1) := by decide +kernel
theorem dX5_add_54 : decode cX5_add 54 = .ok (.iastore, 1) := by decide +kernel
theorem dX5_add_55 : decode cX5_add 55 = .ok (.return_, 1) := by decide +kernel
theorem dX5_circles_0 : decode cX5_circles 0 = .ok (.aload_n 0, 1) := by decide +kernel
theorem dX5_circles_1 : decode cX5_circles 1 = .ok (.iload_n 1, 1) := by decide +kernel
theorem dX5_circles_2 : decode cX5_circles 2 = .ok (.iload_n 2, 1) := by decide +kernel
theorem dX5_circles_3 : decode cX5_circles 3 = .ok (.invokevirtual 101, 3) := by decide +kernel
theorem dX5_circles_6 : decode cX5_circles 6 = .ok (.ifCond .eq 15, 3) := by decide +kernel
theorem dX5_circles_9 : decode cX5_circles 9 = .ok (.aload_n 0, 1) := by decide +kernel
theorem dX5_circles_10 : decode cX5_circles 10 = .ok (.getfield 7, 3) := by decide +kernel
theorem dX5_circles_13 : decode cX5_circles 13 = .ok (.iconst 5, 1) := by decide +kernel
theorem dX5_circles_14 : decode cX5_circles 14 = .ok (.dup2, 1) := by decide +kernel
theorem dX5_circles_15 : decode cX5_circles 15 = .ok (.iaload, 1) := by decide +kernel
theorem dX5_circles_16 : decode cX5_circles 16 = .ok (.iconst 1, 1) := by decide +kernel
theorem dX5_circles_17 : decode cX5_circles 17 = .ok (.iadd, 1) := by decide +kernel
theorem dX5_circles_18 : decode cX5_circles 18 = .ok (.iastore, 1) := by decide +kernel
theorem dX5_circles_19 : decode cX5_circles 19 = .ok (.iconst (-1), 1) := by decide +kernel
theorem dX5_circles_20 : decode cX5_circles 20 = .ok (.ireturn, 1) := by decide +kernel
theorem dX5_circles_21 : decode cX5_circles 21 = .ok (.aload_n 0, 1) := by decide +kernel
theorem dX5_circles_22 : decode cX5_circles 22 = .ok (.iload_n 1, 1) := by decide +kernel
theorem dX5_circles_23 : decode cX5_circles 23 = .ok (.iload_n 2, 1) := by decide +kernel
theorem dX5_circles_24 : decode cX5_circles 24 = .ok (.invokevirtual 104, 3) := by decide +kernel
theorem dX5_circles_27 : decode cX5_circles 27 = .ok (.aload_n 0, 1) := by decide +kernel
theorem dX5_circles_28 : decode cX5_circles 28 = .ok (.invokevirtual 98, 3) := by decide +kernel
theorem dX5_circles_31 : decode cX5_circles 31 = .ok (.aload_n 0, 1) := by decide +kernel
theorem dX5_circles_32 : decode cX5_circles 32 = .ok (.iload_n 1, 1) := by decide +kernel
theorem dX5_circles_33 : decode cX5_circles 33 = .ok (.invokevirtual 77, 3) := by decide +kernel
theorem dX5_circles_36 : decode cX5_circles 36 = .ok (.bipush 100, 2) := by decide +kernel
theorem dX5_circles_38 : decode cX5_circles 38 = .ok (.iadd, 1) := by decide +kernel
theorem dX5_circles_39 : decode cX5_circles 39 = .ok (.ireturn, 1) := by decide +kernel
theorem dX5_drops_0 : decode cX5_drops 0 = .ok (.aload_n 0, 1) := by decide +kernel
theorem dX5_drops_1 : decode cX5_drops 1 = .ok (.invokevirtual 98, 3) := by decide +kernel
theorem dX5_drops_4 : decode cX5_drops 4 = .ok (.aload_n 0, 1) := by decide +kernel
theorem dX5_drops_5 : decode cX5_drops 5 = .ok (.invokevirtual 107, 3) := by decide +kernel
theorem dX5_drops_8 : decode cX5_drops 8 = .ok (.aload_n 0, 1) := by decide +kernel
theorem dX5_drops_9 : decode cX5_drops 9 = .ok (.getfield 7, 3) := by decide +kernel
theorem dX5_drops_12 : decode cX5_drops 12 = .ok (.iconst 0, 1) := by decide +kernel
theorem dX5_drops_13 : decode cX5_drops 13 = .ok (.dup2, 1) := by decide +kernel
theorem dX5_drops_14 : decode cX5_drops 14 = .ok (.iaload, 1) := by decide +kernel
theorem dX5_drops_15 : decode cX5_drops 15 = .ok (.iconst 1, 1) := by decide +kernel
theorem dX5_drops_16 : decode cX5_drops 16 = .ok (.isub, 1) := by decide +kernel
theorem dX5_drops_17 : decode cX5_drops 17 = .ok (.iastore, 1) := by decide +kernel
theorem dX5_drops_18 : decode cX5_drops 18 = .ok (.bipush 54, 2) := by decide +kernel
theorem dX5_drops_20 : decode cX5_drops 20 = .ok (.iconst 3, 1) := by decide +kernel
theorem dX5_drops_21 : decode cX5_drops 21 = .ok (.iload_n 1, 1) := by decide +kernel
theorem dX5_drops_22 : decode cX5_drops 22 = .ok (.imul, 1) := by decide +kernel
theorem dX5_drops_23 : decode cX5_drops 23 = .ok (.iadd, 1) := by decide +kernel
theorem dX5_drops_24 : decode cX5_drops 24 = .ok (.istore_n 2, 1) := by decide +kernel
theorem dX5_drops_25 : decode cX5_drops 25 = .ok (.iload_n 2, 1) := by decide +kernel
theorem dX5_drops_26 : decode cX5_drops 26 = .ok (.bipush 54, 2) := by decide +kernel
theorem dX5_drops_28 : decode cX5_drops 28 = .ok (.iconst 3, 1) := by decide +kernel
theorem dX5_drops_29 : decode cX5_drops 29 = .ok (.aload_n 0, 1) := by decide +kernel
theorem dX5_drops_30 : decode cX5_drops 30 = .ok (.getfield 7, 3) := by decide +kernel
theorem dX5_drops_33 : decode cX5_drops 33 = .ok (.iconst 0, 1) := by decide +kernel
theorem dX5_drops_34 : decode cX5_drops 34 = .ok (.iaload, 1) := by decide +kernel
theorem dX5_drops_35 : decode cX5_drops 35 = .ok (.imul, 1) := by decide +kernel
theorem dX5_drops_36 : decode cX5_drops 36 = .ok (.iadd, 1) := by decide +kernel
theorem dX5_drops_37 : decode cX5_drops 37 = .ok (.if_icmp .ge 23, 3) := by decide +kernel
theorem dX5_drops_40 : decode cX5_drops 40 = .ok (.aload_n 0, 1) := by decide +kernel
theorem dX5_drops_41 : decode cX5_drops 41 = .ok (.getfield 7, 3) := by decide +kernel
theorem dX5_drops_44 : decode cX5_drops 44 = .ok (.iload_n 2, 1) := by decide +kernel
theorem dX5_drops_45 : decode cX5_drops 45 = .ok (.aload_n 0, 1) := by decide +kernel
theorem dX5_drops_46 : decode cX5_drops 46 = .ok (.getfield 7, 3) := by decide +kernel
theorem dX5_drops_49 : decode cX5_drops 49 = .ok (.iload_n 2, 1) := by decide +kernel
theorem dX5_drops_50 : decode cX5_drops 50 = .ok (.iconst 3, 1) := by decide +kernel
theorem dX5_drops_51 : decode cX5_drops 51 = .ok (.iadd, 1) := by decide +kernel
theorem dX5_drops_52 : decode cX5_drops 52 = .ok (.iaload, 1) := by decide +kernel
theorem dX5_drops_53 : decode cX5_drops 53 = .ok (.iastore, 1) := by decide +kernel
theorem dX5_drops_54 : decode cX5_drops 54 = .ok (.iinc 2 1, 3) := by decide +kernel
theorem dX5_drops_57 : decode cX5_drops 57 = .ok (.goto (-32), 3) := by decide +kernel
theorem dX5_drops_60 : decode cX5_drops 60 = .ok (.aload_n 0, 1) := by decide +kernel
theorem dX5_drops_61 : decode cX5_drops 61 = .ok (.invokevirtual 98, 3) := by decide +kernel
theorem dX5_drops_64 : decode cX5_drops 64 = .ok (.aload_n 0, 1) := by decide +kernel
theorem dX5_drops_65 : decode cX5_drops 65 = .ok (.invokevirtual 110, 3) := by decide +kernel
theorem dX5_drops_68 : decode cX5_drops 68 = .ok (.ireturn, 1) := by decide +kernel
theorem dX5_width_0 : decode cX5_width 0 = .ok (.aload_n 0, 1) := by decide +kernel
theorem dX5_width_1 : decode cX5_width 1 = .ok (.iload_n 1, 1) := by decide +kernel
theorem dX5_width_2 : decode cX5_width 2 = .ok (.invokestatic 114, 3) := by decide +kernel
theorem dX5_width_5 : decode cX5_width 5 = .ok (.ifCond .ne 7, 3) := by decide +kernel
theorem dX5_width_8 : decode cX5_width 8 = .ok (.iconst 1, 1) := by decide +kernel
theorem dX5_width_9 : decode cX5_width 9 = .ok (.goto 19, 3) := by decide +kernel
theorem dX5_width_12 : decode cX5_width 12 = .ok (.iload_n 2, 1) := by decide +kernel
theorem dX5_width_13 : decode cX5_width 13 = .ok (.bipush 13, 2) := by decide +kernel
theorem dX5_width_15 : decode cX5_width 15 = .ok (.bipush 30, 2) := by decide +kernel
theorem dX5_width_17 : decode cX5_width 17 = .ok (.invokestatic 58, 3) := by decide +kernel
theorem dX5_width_20 : decode cX5_width 20 = .ok (.ifCond .ne 7, 3) := by decide +kernel
theorem dX5_width_23 : decode cX5_width 23 = .ok (.iconst 2, 1) := by decide +kernel
theorem dX5_width_24 : decode cX5_width 24 = .ok (.goto 4, 3) := by decide +kernel
theorem dX5_width_27 : decode cX5_width 27 = .ok (.iconst 0, 1) := by decide +kernel
theorem dX5_width_28 : decode cX5_width 28 = .ok (.invokevirtual 118, 3) := by decide +kernel
theorem dX5_width_31 : decode cX5_width 31 = .ok (.ifCond .ne 5, 3) := by decide +kernel
theorem dX5_width_34 : decode cX5_width 34 = .ok (.iconst 0, 1) := by decide +kernel
theorem dX5_width_35 : decode cX5_width 35 = .ok (.ireturn, 1) := by decide +kernel
theorem dX5_width_36 : decode cX5_width 36 = .ok (.aload_n 0, 1) := by decide +kernel
theorem dX5_width_37 : decode cX5_width 37 = .ok (.invokevirtual 121, 3) := by decide +kernel
theorem dX5_width_40 : decode cX5_width 40 = .ok (.aload_n 0, 1) := by decide +kernel
theorem dX5_width_41 : decode cX5_width 41 = .ok (.iload_n 1, 1) := by decide +kernel
theorem dX5_width_42 : decode cX5_width 42 = .ok (.iconst 0, 1) := by decide +kernel
theorem dX5_width_43 : decode cX5_width 43 = .ok (.invokevirtual 62, 3) := by decide +kernel
theorem dX5_width_46 : decode cX5_width 46 = .ok (.istore_n 3, 1) := by decide +kernel
theorem dX5_width_47 : decode cX5_width 47 = .ok (.aload_n 0, 1) := by decide +kernel
theorem dX5_width_48 : decode cX5_width 48 = .ok (.iload_n 1, 1) := by decide +kernel
theorem dX5_width_49 : decode cX5_width 49 = .ok (.iconst 0, 1) := by decide +kernel
theorem dX5_width_50 : decode cX5_width 50 = .ok (.iload_n 2, 1) := by decide +kernel
theorem dX5_width_51 : decode cX5_width 51 = .ok (.invokevirtual 50, 3) := by decide +kernel
theorem dX5_width_54 : decode cX5_width 54 = .ok (.iload_n 3, 1) := by decide +kernel
theorem dX5_width_55 : decode cX5_width 55 = .ok (.ireturn, 1) := by decide +kernel
theorem dX5_shape_0 : decode cX5_shape 0 = .ok (.aload_n 0, 1) := by decide +kernel
theorem dX5_shape_1 : decode cX5_shape 1 = .ok (.iload_n 1, 1) := by decide +kernel
theorem dX5_shape_2 : decode cX5_shape 2 = .ok (.invokestatic 114, 3) := by decide +kernel
theorem dX5_shape_5 : decode cX5_shape 5 = .ok (.ifCond .ne 7, 3) := by decide +kernel
theorem dX5_shape_8 : decode cX5_shape 8 = .ok (.iconst 1, 1) := by decide +kernel
theorem dX5_shape_9 : decode cX5_shape 9 = .ok (.goto 22, 3) := by decide +kernel
theorem dX5_shape_12 : decode cX5_shape 12 = .ok (.iload_n 2, 1) := by decide +kernel
theorem dX5_shape_13 : decode cX5_shape 13 = .ok (.invokestatic 124, 3) := by decide +kernel
theorem dX5_shape_16 : decode cX5_shape 16 = .ok (.ifCond .eq 10, 3) := by decide +kernel
theorem dX5_shape_19 : decode cX5_shape 19 = .ok (.iload_n 3, 1) := by decide +kernel
theorem dX5_shape_20 : decode cX5_shape 20 = .ok (.invokestatic 124, 3) := by decide +kernel
theorem dX5_shape_23 : decode cX5_shape 23 = .ok (.ifCond .ne 7, 3) := by decide +kernel
theorem dX5_shape_26 : decode cX5_shape 26 = .ok (.iconst 2, 1) := by decide +kernel
theorem dX5_shape_27 : decode cX5_shape 27 = .ok (.goto 4, 3) := by decide +kernel
theorem dX5_shape_30 : decode cX5_shape 30 = .ok (.iconst 0, 1) := by decide +kernel
theorem dX5_shape_31 : decode cX5_shape 31 = .ok (.invokevirtual 118, 3) := by decide +kernel
theorem dX5_shape_34 : decode cX5_shape 34 = .ok (.ifCond .ne 5, 3) := by decide +kernel
theorem dX5_shape_37 : decode cX5_shape 37 = .ok (.iconst 0, 1) := by decide +kernel
theorem dX5_shape_38 : decode cX5_shape 38 = .ok (.ireturn, 1) := by decide +kernel
theorem dX5_shape_39 : decode cX5_shape 39 = .ok (.aload_n 0, 1) := by decide +kernel
theorem dX5_shape_40 : decode cX5_shape 40 = .ok (.invokevirtual 121, 3) := by decide +kernel
theorem dX5_shape_43 : decode cX5_shape 43 = .ok (.iconst 4, 1) := by decide +kernel
theorem dX5_shape_44 : decode cX5_shape 44 = .ok (.aload_n 0, 1) := by decide +kernel
theorem dX5_shape_45 : decode cX5_shape 45 = .ok (.iload_n 1, 1) := by decide +kernel
theorem dX5_shape_46 : decode cX5_shape 46 = .ok (.iconst 1, 1) := by decide +kernel
theorem dX5_shape_47 : decode cX5_shape 47 = .ok (.invokevirtual 62, 3) := by decide +kernel
theorem dX5_shape_50 : decode cX5_shape 50 = .ok (.imul, 1) := by decide +kernel
theorem dX5_shape_51 : decode cX5_shape 51 = .ok (.aload_n 0, 1) := by decide +kernel
theorem dX5_shape_52 : decode cX5_shape 52 = .ok (.iload_n 1, 1) := by decide +kernel
theorem dX5_shape_53 : decode cX5_shape 53 = .ok (.iconst 2, 1) := by decide +kernel
theorem dX5_shape_54 : decode cX5_shape 54 = .ok (.invokevirtual 62, 3) := by decide +kernel
theorem dX5_shape_57 : decode cX5_shape 57 = .ok (.iadd, 1) := by decide +kernel
theorem dX5_shape_58 : decode cX5_shape 58 = .ok (.istore 4, 2) := by decide +kernel
theorem dX5_shape_60 : decode cX5_shape 60 = .ok (.aload_n 0, 1) := by decide +kernel
theorem dX5_shape_61 : decode cX5_shape 61 = .ok (.iload_n 1, 1) := by decide +kernel
theorem dX5_shape_62 : decode cX5_shape 62 = .ok (.iconst 1, 1) := by decide +kernel
theorem dX5_shape_63 : decode cX5_shape 63 = .ok (.iload_n 2, 1) := by decide +kernel
theorem dX5_shape_64 : decode cX5_shape 64 = .ok (.invokevirtual 50, 3) := by decide +kernel
theorem dX5_shape_67 : decode cX5_shape 67 = .ok (.aload_n 0, 1) := by decide +kernel
theorem dX5_shape_68 : decode cX5_shape 68 = .ok (.iload_n 1, 1) := by decide +kernel
theorem dX5_shape_69 : decode cX5_shape 69 = .ok (.iconst 2, 1) := by decide +kernel
theorem dX5_shape_70 : decode cX5_shape 70 = .ok (.iload_n 3, 1) := by decide +kernel
theorem dX5_shape_71 : decode cX5_shape 71 = .ok (.invokevirtual 50, 3) := by decide +kernel
theorem dX5_shape_74 : decode cX5_shape 74 = .ok (.aload_n 0, 1) := by decide +kernel
theorem dX5_shape_75 : decode cX5_shape 75 = .ok (.getfield 7, 3) := by decide +kernel
theorem dX5_shape_78 : decode cX5_shape 78 = .ok (.bipush 7, 2) := by decide +kernel
theorem dX5_shape_80 : decode cX5_shape 80 = .ok (.dup2, 1) := by decide +kernel
theorem dX5_shape_81 : decode cX5_shape 81 = .ok (.iaload, 1) := by decide +kernel
theorem dX5_shape_82 : decode cX5_shape 82 = .ok (.iconst 1, 1) := by decide +kernel
theorem dX5_shape_83 : decode cX5_shape 83 = .ok (.iadd, 1) := by decide +kernel
theorem dX5_shape_84 : decode cX5_shape 84 = .ok (.iastore, 1) := by decide +kernel
theorem dX5_shape_85 : decode cX5_shape 85 = .ok (.iload 4, 2) := by decide +kernel
theorem dX5_shape_87 : decode cX5_shape 87 = .ok (.ireturn, 1) := by decide +kernel
theorem dX5_base_0 : decode cX5_base 0 = .ok (.aload_n 0, 1) := by decide +kernel
theorem dX5_base_1 : decode cX5_base 1 = .ok (.iload_n 1, 1) := by decide +kernel
theorem dX5_base_2 : decode cX5_base 2 = .ok (.invokestatic 124, 3) := by decide +kernel
theorem dX5_base_5 : decode cX5_base 5 = .ok (.ifCond .eq 10, 3) := by decide +kernel
theorem dX5_base_8 : decode cX5_base 8 = .ok (.iload_n 2, 1) := by decide +kernel
theorem dX5_base_9 : decode cX5_base 9 = .ok (.invokestatic 124, 3) := by decide +kernel
theorem dX5_base_12 : decode cX5_base 12 = .ok (.ifCond .ne 7, 3) := by decide +kernel
theorem dX5_base_15 : decode cX5_base 15 = .ok (.iconst 1, 1) := by decide +kernel
theorem dX5_base_16 : decode cX5_base 16 = .ok (.goto 19, 3) := by decide +kernel
theorem dX5_base_19 : decode cX5_base 19 = .ok (.iload_n 3, 1) := by decide +kernel
theorem dX5_base_20 : decode cX5_base 20 = .ok (.bipush (-12), 2) := by decide +kernel
theorem dX5_base_22 : decode cX5_base 22 = .ok (.bipush 12, 2) := by decide +kernel
theorem dX5_base_24 : decode cX5_base 24 = .ok (.invokestatic 58, 3) := by decide +kernel
theorem dX5_base_27 : decode cX5_base 27 = .ok (.ifCond .ne 7, 3) := by decide +kernel
theorem dX5_base_30 : decode cX5_base 30 = .ok (.iconst 2, 1) := by decide +kernel
theorem dX5_base_31 : decode cX5_base 31 = .ok (.goto 4, 3) := by decide +kernel
theorem dX5_base_34 : decode cX5_base 34 = .ok (.iconst 0, 1) := by decide +kernel
theorem dX5_base_35 : decode cX5_base 35 = .ok (.invokevirtual 118, 3) := by decide +kernel
theorem dX5_base_38 : decode cX5_base 38 = .ok (.ifCond .ne 5, 3) := by decide +kernel
theorem dX5_base_41 : decode cX5_base 41 = .ok (.iconst 0, 1) := by decide +kernel
theorem dX5_base_42 : decode cX5_base 42 = .ok (.ireturn, 1) := by decide +kernel
theorem dX5_base_43 : decode cX5_base 43 = .ok (.aload_n 0, 1) := by decide +kernel
theorem dX5_base_44 : decode cX5_base 44 = .ok (.invokevirtual 121, 3) := by decide +kernel
theorem dX5_base_47 : decode cX5_base 47 = .ok (.aload_n 0, 1) := by decide +kernel
theorem dX5_base_48 : decode cX5_base 48 = .ok (.getfield 7, 3) := by decide +kernel
theorem dX5_base_51 : decode cX5_base 51 = .ok (.bipush 38, 2) := by decide +kernel
theorem dX5_base_53 : decode cX5_base 53 = .ok (.iconst 4, 1) := by decide +kernel
theorem dX5_base_54 : decode cX5_base 54 = .ok (.iload_n 1, 1) := by decide +kernel
theorem dX5_base_55 : decode cX5_base 55 = .ok (.imul, 1) := by decide +kernel
theorem dX5_base_56 : decode cX5_base 56 = .ok (.iadd, 1) := by decide +kernel
theorem dX5_base_57 : decode cX5_base 57 = .ok (.iload_n 2, 1) := by decide +kernel
theorem dX5_base_58 : decode cX5_base 58 = .ok (.iadd, 1) := by decide +kernel
theorem dX5_base_59 : decode cX5_base 59 = .ok (.iaload, 1) := by decide +kernel
theorem dX5_base_60 : decode cX5_base 60 = .ok (.istore 4, 2) := by decide +kernel
theorem dX5_base_62 : decode cX5_base 62 = .ok (.aload_n 0, 1) := by decide +kernel
theorem dX5_base_63 : decode cX5_base 63 = .ok (.getfield 7, 3) := by decide +kernel
theorem dX5_base_66 : decode cX5_base 66 = .ok (.bipush 38, 2) := by decide +kernel
theorem dX5_base_68 : decode cX5_base 68 = .ok (.iconst 4, 1) := by decide +kernel
theorem dX5_base_69 : decode cX5_base 69 = .ok (.iload_n 1, 1) := by decide +kernel
theorem dX5_base_70 : decode cX5_base 70 = .ok (.imul, 1) := by decide +kernel
theorem dX5_base_71 : decode cX5_base 71 = .ok (.iadd, 1) := by decide +kernel
theorem dX5_base_72 : decode cX5_base 72 = .ok (.iload_n 2, 1) := by decide +kernel
theorem dX5_base_73 : decode cX5_base 73 = .ok (.iadd, 1) := by decide +kernel
theorem dX5_base_74 : decode cX5_base 74 = .ok (.iload_n 3, 1) := by decide +kernel
theorem dX5_base_75 : decode cX5_base 75 = .ok (.iastore, 1) := by decide +kernel
theorem dX5_base_76 : decode cX5_base 76 = .ok (.aload_n 0, 1) := by decide +kernel
theorem dX5_base_77 : decode cX5_base 77 = .ok (.getfield 7, 3) := by decide +kernel
theorem dX5_base_80 : decode cX5_base 80 = .ok (.bipush 7, 2) := by decide +kernel
theorem dX5_base_82 : decode cX5_base 82 = .ok (.dup2, 1) := by decide +kernel
theorem dX5_base_83 : decode cX5_base 83 = .ok (.iaload, 1) := by decide +kernel
theorem dX5_base_84 : decode cX5_base 84 = .ok (.iconst 1, 1) := by decide +kernel
theorem dX5_base_85 : decode cX5_base 85 = .ok (.iadd, 1) := by decide +kernel
theorem dX5_base_86 : decode cX5_base 86 = .ok (.iastore, 1) := by decide +kernel
theorem dX5_base_87 : decode cX5_base 87 = .ok (.iload 4, 2) := by decide +kernel
theorem dX5_base_89 : decode cX5_base 89 = .ok (.bipush 100, 2) := by decide +kernel
theorem dX5_base_91 : decode cX5_base 91 = .ok (.iadd, 1) := by decide +kernel
theorem dX5_base_92 : decode cX5_base 92 = .ok (.ireturn, 1) := by decide +kernel
theorem dX5_fits_0 : decode cX5_fits 0 = .ok (.iload_n 0, 1) := by decide +kernel
theorem dX5_fits_1 : decode cX5_fits 1 = .ok (.ifCond .ne 13, 3) := by decide +kernel
theorem dX5_fits_4 : decode cX5_fits 4 = .ok (.iload_n 1, 1) := by decide +kernel
theorem dX5_fits_5 : decode cX5_fits 5 = .ok (.iconst 1, 1) := by decide +kernel
theorem dX5_fits_6 : decode cX5_fits 6 = .ok (.bipush 6, 2) := by decide +kernel
theorem dX5_fits_8 : decode cX5_fits 8 = .ok (.invokestatic 58, 3) := by decide +kernel
theorem dX5_fits_11 : decode cX5_fits 11 = .ok (.goto 41, 3) := by decide +kernel
theorem dX5_fits_14 : decode cX5_fits 14 = .ok (.iload_n 0, 1) := by decide +kernel
theorem dX5_fits_15 : decode cX5_fits 15 = .ok (.iconst 1, 1) := by decide +kernel
theorem dX5_fits_16 : decode cX5_fits 16 = .ok (.if_icmp .ne 12, 3) := by decide +kernel
theorem dX5_fits_19 : decode cX5_fits 19 = .ok (.iload_n 1, 1) := by decide +kernel
theorem dX5_fits_20 : decode cX5_fits 20 = .ok (.iconst 2, 1) := by decide +kernel
theorem dX5_fits_21 : decode cX5_fits 21 = .ok (.iconst 5, 1) := by decide +kernel
theorem dX5_fits_22 : decode cX5_fits 22 = .ok (.invokestatic 58, 3) := by decide +kernel
theorem dX5_fits_25 : decode cX5_fits 25 = .ok (.goto 27, 3) := by decide +kernel
theorem dX5_fits_28 : decode cX5_fits 28 = .ok (.iload_n 0, 1) := by decide +kernel
theorem dX5_fits_29 : decode cX5_fits 29 = .ok (.iconst 2, 1) := by decide +kernel
theorem dX5_fits_30 : decode cX5_fits 30 = .ok (.if_icmp .ne 13, 3) := by decide +kernel
theorem dX5_fits_33 : decode cX5_fits 33 = .ok (.iload_n 1, 1) := by decide +kernel
theorem dX5_fits_34 : decode cX5_fits 34 = .ok (.iconst 1, 1) := by decide +kernel
theorem dX5_fits_35 : decode cX5_fits 35 = .ok (.bipush 20, 2) := by decide +kernel
theorem dX5_fits_37 : decode cX5_fits 37 = .ok (.invokestatic 58, 3) := by decide +kernel
theorem dX5_fits_40 : decode cX5_fits 40 = .ok (.goto 12, 3) := by decide +kernel
theorem dX5_fits_43 : decode cX5_fits 43 = .ok (.iload_n 1, 1) := by decide +kernel
theorem dX5_fits_44 : decode cX5_fits 44 = .ok (.bipush 40, 2) := by decide +kernel
theorem dX5_fits_46 : decode cX5_fits 46 = .ok (.sipush 600, 3) := by decide +kernel
theorem dX5_fits_49 : decode cX5_fits 49 = .ok (.invokestatic 58, 3) := by decide +kernel
theorem dX5_fits_52 : decode cX5_fits 52 = .ok (.ireturn, 1) := by decide +kernel
theorem dX5_set_0 : decode cX5_set 0 = .ok (.aload_n 0, 1) := by decide +kernel
theorem dX5_set_1 : decode cX5_set 1 = .ok (.iload_n 1, 1) := by decide +kernel
theorem dX5_set_2 : decode cX5_set 2 = .ok (.iconst 0, 1) := by decide +kernel
theorem dX5_set_3 : decode cX5_set 3 = .ok (.iconst 3, 1) := by decide +kernel
theorem dX5_set_4 : decode cX5_set 4 = .ok (.invokestatic 58, 3) := by decide +kernel
theorem dX5_set_7 : decode cX5_set 7 = .ok (.ifCond .ne 7, 3) := by decide +kernel
theorem dX5_set_10 : decode cX5_set 10 = .ok (.iconst 1, 1) := by decide +kernel
theorem dX5_set_11 : decode cX5_set 11 = .ok (.goto 16, 3) := by decide +kernel
theorem dX5_set_14 : decode cX5_set 14 = .ok (.iload_n 1, 1) := by decide +kernel
theorem dX5_set_15 : decode cX5_set 15 = .ok (.iload_n 2, 1) := by decide +kernel
theorem dX5_set_16 : decode cX5_set 16 = .ok (.invokestatic 127, 3) := by decide +kernel
theorem dX5_set_19 : decode cX5_set 19 = .ok (.ifCond .ne 7, 3) := by decide +kernel
theorem dX5_set_22 : decode cX5_set 22 = .ok (.iconst 2, 1) := by decide +kernel
theorem dX5_set_23 : decode cX5_set 23 = .ok (.goto 4, 3) := by decide +kernel
theorem dX5_set_26 : decode cX5_set 26 = .ok (.iconst 0, 1) := by decide +kernel
theorem dX5_set_27 : decode cX5_set 27 = .ok (.invokevirtual 118, 3) := by decide +kernel
theorem dX5_set_30 : decode cX5_set 30 = .ok (.ifCond .ne 5, 3) := by decide +kernel
theorem dX5_set_33 : decode cX5_set 33 = .ok (.iconst 0, 1) := by decide +kernel
theorem dX5_set_34 : decode cX5_set 34 = .ok (.ireturn, 1) := by decide +kernel
theorem dX5_set_35 : decode cX5_set 35 = .ok (.aload_n 0, 1) := by decide +kernel
theorem dX5_set_36 : decode cX5_set 36 = .ok (.invokevirtual 121, 3) := by decide +kernel
theorem dX5_set_39 : decode cX5_set 39 = .ok (.aload_n 0, 1) := by decide +kernel
theorem dX5_set_40 : decode cX5_set 40 = .ok (.getfield 7, 3) := by decide +kernel
theorem dX5_set_43 : decode cX5_set 43 = .ok (.iconst 1, 1) := by decide +kernel
theorem dX5_set_44 : decode cX5_set 44 = .ok (.iload_n 1, 1) := by decide +kernel
theorem dX5_set_45 : decode cX5_set 45 = .ok (.iadd, 1) := by decide +kernel
theorem dX5_set_46 : decode cX5_set 46 = .ok (.iaload, 1) := by decide +kernel
theorem dX5_set_47 : decode cX5_set 47 = .ok (.istore_n 3, 1) := by decide +kernel
theorem dX5_set_48 : decode cX5_set 48 = .ok (.aload_n 0, 1) := by decide +kernel
theorem dX5_set_49 : decode cX5_set 49 = .ok (.getfield 7, 3) := by decide +kernel
theorem dX5_set_52 : decode cX5_set 52 = .ok (.iconst 1, 1) := by decide +kernel
theorem dX5_set_53 : decode cX5_set 53 = .ok (.iload_n 1, 1) := by decide +kernel
theorem dX5_set_54 : decode cX5_set 54 = .ok (.iadd, 1) := by decide +kernel
theorem dX5_set_55 : decode cX5_set 55 = .ok (.iload_n 2, 1) := by decide +kernel
theorem dX5_set_56 : decode cX5_set 56 = .ok (.iastore, 1) := by decide +kernel
theorem dX5_set_57 : decode cX5_set 57 = .ok (.aload_n 0, 1) := by decide +kernel
theorem dX5_set_58 : decode cX5_set 58 = .ok (.getfield 7, 3) := by decide +kernel
theorem dX5_set_61 : decode cX5_set 61 = .ok (.bipush 7, 2) := by decide +kernel
theorem dX5_set_63 : decode cX5_set 63 = .ok (.dup2, 1) := by decide +kernel
theorem dX5_set_64 : decode cX5_set 64 = .ok (.iaload, 1) := by decide +kernel
theorem dX5_set_65 : decode cX5_set 65 = .ok (.iload_n 1, 1) := by decide +kernel
theorem dX5_set_66 : decode cX5_set 66 = .ok (.iconst 2, 1) := by decide +kernel
theorem dX5_set_67 : decode cX5_set 67 = .ok (.if_icmp .ge 7, 3) := by decide +kernel
theorem dX5_set_70 : decode cX5_set 70 = .ok (.iconst 1, 1) := by decide +kernel
theorem dX5_set_71 : decode cX5_set 71 = .ok (.goto 4, 3) := by decide +kernel
theorem dX5_set_74 : decode cX5_set 74 = .ok (.iconst 0, 1) := by decide +kernel
theorem dX5_set_75 : decode cX5_set 75 = .ok (.iadd, 1) := by decide +kernel
theorem dX5_set_76 : decode cX5_set 76 = .ok (.iastore, 1) := by decide +kernel
theorem dX5_set_77 : decode cX5_set 77 = .ok (.iload_n 3, 1) := by decide +kernel
theorem dX5_set_78 : decode cX5_set 78 = .ok (.ireturn, 1) := by decide +kernel
theorem dX5_circle_0 : decode cX5_circle 0 = .ok (.aload_n 0, 1) := by decide +kernel
theorem dX5_circle_1 : decode cX5_circle 1 = .ok (.iload_n 1, 1) := by decide +kernel
theorem dX5_circle_2 : decode cX5_circle 2 = .ok (.invokestatic 114, 3) := by decide +kernel
theorem dX5_circle_5 : decode cX5_circle 5 = .ok (.ifCond .eq 10, 3) := by decide +kernel
theorem dX5_circle_8 : decode cX5_circle 8 = .ok (.iload_n 2, 1) := by decide +kernel
theorem dX5_circle_9 : decode cX5_circle 9 = .ok (.invokestatic 114, 3) := by decide +kernel
theorem dX5_circle_12 : decode cX5_circle 12 = .ok (.ifCond .ne 7, 3) := by decide +kernel
theorem dX5_circle_15 : decode cX5_circle 15 = .ok (.iconst 1, 1) := by decide +kernel
theorem dX5_circle_16 : decode cX5_circle 16 = .ok (.goto 15, 3) := by decide +kernel
theorem dX5_circle_19 : decode cX5_circle 19 = .ok (.iload_n 3, 1) := by decide +kernel
theorem dX5_circle_20 : decode cX5_circle 20 = .ok (.invokestatic 130, 3) := by decide +kernel
theorem dX5_circle_23 : decode cX5_circle 23 = .ok (.ifCond .ne 7, 3) := by decide +kernel
theorem dX5_circle_26 : decode cX5_circle 26 = .ok (.iconst 2, 1) := by decide +kernel
theorem dX5_circle_27 : decode cX5_circle 27 = .ok (.goto 4, 3) := by decide +kernel
theorem dX5_circle_30 : decode cX5_circle 30 = .ok (.iconst 0, 1) := by decide +kernel
theorem dX5_circle_31 : decode cX5_circle 31 = .ok (.invokevirtual 118, 3) := by decide +kernel
theorem dX5_circle_34 : decode cX5_circle 34 = .ok (.ifCond .ne 5, 3) := by decide +kernel
theorem dX5_circle_37 : decode cX5_circle 37 = .ok (.iconst 0, 1) := by decide +kernel
theorem dX5_circle_38 : decode cX5_circle 38 = .ok (.ireturn, 1) := by decide +kernel
theorem dX5_circle_39 : decode cX5_circle 39 = .ok (.aload_n 0, 1) := by decide +kernel
theorem dX5_circle_40 : decode cX5_circle 40 = .ok (.invokevirtual 121, 3) := by decide +kernel
theorem dX5_circle_43 : decode cX5_circle 43 = .ok (.aload_n 0, 1) := by decide +kernel
theorem dX5_circle_44 : decode cX5_circle 44 = .ok (.bipush 10, 2) := by decide +kernel
theorem dX5_circle_46 : decode cX5_circle 46 = .ok (.iload_n 1, 1) := by decide +kernel
theorem dX5_circle_47 : decode cX5_circle 47 = .ok (.imul, 1) := by decide +kernel
theorem dX5_circle_48 : decode cX5_circle 48 = .ok (.iload_n 2, 1) := by decide +kernel
theorem dX5_circle_49 : decode cX5_circle 49 = .ok (.iadd, 1) := by decide +kernel
theorem dX5_circle_50 : decode cX5_circle 50 = .ok (.iload_n 3, 1) := by decide +kernel
theorem dX5_circle_51 : decode cX5_circle 51 = .ok (.invokevirtual 133, 3) := by decide +kernel
theorem dX5_circle_54 : decode cX5_circle 54 = .ok (.ireturn, 1) := by decide +kernel
theorem dX5_forget_0 : decode cX5_forget 0 = .ok (.aload_n 0, 1) := by decide +kernel
theorem dX5_forget_1 : decode cX5_forget 1 = .ok (.aload_n 0, 1) := by decide +kernel
theorem dX5_forget_2 : decode cX5_forget 2 = .ok (.iload_n 1, 1) := by decide +kernel
theorem dX5_forget_3 : decode cX5_forget 3 = .ok (.invokevirtual 136, 3) := by decide +kernel
theorem dX5_forget_6 : decode cX5_forget 6 = .ok (.ifCond .eq 7, 3) := by decide +kernel
theorem dX5_forget_9 : decode cX5_forget 9 = .ok (.iconst 0, 1) := by decide +kernel
theorem dX5_forget_10 : decode cX5_forget 10 = .ok (.goto 4, 3) := by decide +kernel
theorem dX5_forget_13 : decode cX5_forget 13 = .ok (.iconst 1, 1) := by decide +kernel
theorem dX5_forget_14 : decode cX5_forget 14 = .ok (.invokevirtual 118, 3) := by decide +kernel
theorem dX5_forget_17 : decode cX5_forget 17 = .ok (.ifCond .ne 5, 3) := by decide +kernel
theorem dX5_forget_20 : decode cX5_forget 20 = .ok (.iconst 0, 1) := by decide +kernel
theorem dX5_forget_21 : decode cX5_forget 21 = .ok (.ireturn, 1) := by decide +kernel
theorem dX5_forget_22 : decode cX5_forget 22 = .ok (.aload_n 0, 1) := by decide +kernel
theorem dX5_forget_23 : decode cX5_forget 23 = .ok (.invokevirtual 121, 3) := by decide +kernel
theorem dX5_forget_26 : decode cX5_forget 26 = .ok (.aload_n 0, 1) := by decide +kernel
theorem dX5_forget_27 : decode cX5_forget 27 = .ok (.getfield 7, 3) := by decide +kernel
theorem dX5_forget_30 : decode cX5_forget 30 = .ok (.bipush 6, 2) := by decide +kernel
theorem dX5_forget_32 : decode cX5_forget 32 = .ok (.dup2, 1) := by decide +kernel
theorem dX5_forget_33 : decode cX5_forget 33 = .ok (.iaload, 1) := by decide +kernel
theorem dX5_forget_34 : decode cX5_forget 34 = .ok (.iconst 1, 1) := by decide +kernel
theorem dX5_forget_35 : decode cX5_forget 35 = .ok (.iadd, 1) := by decide +kernel
theorem dX5_forget_36 : decode cX5_forget 36 = .ok (.iastore, 1) := by decide +kernel
theorem dX5_forget_37 : decode cX5_forget 37 = .ok (.aload_n 0, 1) := by decide +kernel
theorem dX5_forget_38 : decode cX5_forget 38 = .ok (.getfield 7, 3) := by decide +kernel
theorem dX5_forget_41 : decode cX5_forget 41 = .ok (.bipush 7, 2) := by decide +kernel
theorem dX5_forget_43 : decode cX5_forget 43 = .ok (.dup2, 1) := by decide +kernel
theorem dX5_forget_44 : decode cX5_forget 44 = .ok (.iaload, 1) := by decide +kernel
theorem dX5_forget_45 : decode cX5_forget 45 = .ok (.iconst 1, 1) := by decide +kernel
theorem dX5_forget_46 : decode cX5_forget 46 = .ok (.iadd, 1) := by decide +kernel
theorem dX5_forget_47 : decode cX5_forget 47 = .ok (.iastore, 1) := by decide +kernel
theorem dX5_forget_48 : decode cX5_forget 48 = .ok (.aload_n 0, 1) := by decide +kernel
theorem dX5_forget_49 : decode cX5_forget 49 = .ok (.iload_n 1, 1) := by decide +kernel
theorem dX5_forget_50 : decode cX5_forget 50 = .ok (.invokevirtual 139, 3) := by decide +kernel
theorem dX5_forget_53 : decode cX5_forget 53 = .ok (.ireturn, 1) := by decide +kernel
theorem dX5_append_0 : decode cX5_append 0 = .ok (.aload_n 0, 1) := by decide +kernel
theorem dX5_append_1 : decode cX5_append 1 = .ok (.iload_n 1, 1) := by decide +kernel
theorem dX5_append_2 : decode cX5_append 2 = .ok (.bipush 33, 2) := by decide +kernel
theorem dX5_append_4 : decode cX5_append 4 = .ok (.bipush 126, 2) := by decide +kernel
theorem dX5_append_6 : decode cX5_append 6 = .ok (.invokestatic 58, 3) := by decide +kernel
theorem dX5_append_9 : decode cX5_append 9 = .ok (.ifCond .ne 7, 3) := by decide +kernel
theorem dX5_append_12 : decode cX5_append 12 = .ok (.iconst 1, 1) := by decide +kernel
theorem dX5_append_13 : decode cX5_append 13 = .ok (.goto 17, 3) := by decide +kernel
theorem dX5_append_16 : decode cX5_append 16 = .ok (.aload_n 0, 1) := by decide +kernel
theorem dX5_append_17 : decode cX5_append 17 = .ok (.getfield 142, 3) := by decide +kernel
theorem dX5_append_20 : decode cX5_append 20 = .ok (.bipush 60, 2) := by decide +kernel
theorem dX5_append_22 : decode cX5_append 22 = .ok (.if_icmp .ne 7, 3) := by decide +kernel
theorem dX5_append_25 : decode cX5_append 25 = .ok (.iconst 2, 1) := by decide +kernel
theorem dX5_append_26 : decode cX5_append 26 = .ok (.goto 4, 3) := by decide +kernel
theorem dX5_append_29 : decode cX5_append 29 = .ok (.iconst 0, 1) := by decide +kernel
theorem dX5_append_30 : decode cX5_append 30 = .ok (.invokevirtual 118, 3) := by decide +kernel
theorem dX5_append_33 : decode cX5_append 33 = .ok (.ifCond .ne 5, 3) := by decide +kernel
theorem dX5_append_36 : decode cX5_append 36 = .ok (.iconst 0, 1) := by decide +kernel
theorem dX5_append_37 : decode cX5_append 37 = .ok (.ireturn, 1) := by decide +kernel
theorem dX5_append_38 : decode cX5_append 38 = .ok (.aload_n 0, 1) := by decide +kernel
theorem dX5_append_39 : decode cX5_append 39 = .ok (.getfield 26, 3) := by decide +kernel
theorem dX5_append_42 : decode cX5_append 42 = .ok (.aload_n 0, 1) := by decide +kernel
theorem dX5_append_43 : decode cX5_append 43 = .ok (.getfield 142, 3) := by decide +kernel
theorem dX5_append_46 : decode cX5_append 46 = .ok (.iload_n 1, 1) := by decide +kernel
theorem dX5_append_47 : decode cX5_append 47 = .ok (.iastore, 1) := by decide +kernel
theorem dX5_append_48 : decode cX5_append 48 = .ok (.aload_n 0, 1) := by decide +kernel
theorem dX5_append_49 : decode cX5_append 49 = .ok (.dup, 1) := by decide +kernel
theorem dX5_append_50 : decode cX5_append 50 = .ok (.getfield 142, 3) := by decide +kernel
theorem dX5_append_53 : decode cX5_append 53 = .ok (.iconst 1, 1) := by decide +kernel
theorem dX5_append_54 : decode cX5_append 54 = .ok (.iadd, 1) := by decide +kernel
theorem dX5_append_55 : decode cX5_append 55 = .ok (.putfield 142, 3) := by decide +kernel
theorem dX5_append_58 : decode cX5_append 58 = .ok (.aload_n 0, 1) := by decide +kernel
theorem dX5_append_59 : decode cX5_append 59 = .ok (.getfield 142, 3) := by decide +kernel
theorem dX5_append_62 : decode cX5_append 62 = .ok (.ireturn, 1) := by decide +kernel
theorem dX5_clearBuffer_0 : decode cX5_clearBuffer 0 = .ok (.aload_n 0, 1) := by decide +kernel
theorem dX5_clearBuffer_1 : decode cX5_clearBuffer 1 = .ok (.iconst 0, 1) := by decide +kernel
theorem dX5_clearBuffer_2 : decode cX5_clearBuffer 2 = .ok (.putfield 54, 3) := by decide +kernel
theorem dX5_clearBuffer_5 : decode cX5_clearBuffer 5 = .ok (.aload_n 0, 1) := by decide +kernel
theorem dX5_clearBuffer_6 : decode cX5_clearBuffer 6 = .ok (.getfield 142, 3) := by decide +kernel
theorem dX5_clearBuffer_9 : decode cX5_clearBuffer 9 = .ok (.istore_n 1, 1) := by decide +kernel
theorem dX5_clearBuffer_10 : decode cX5_clearBuffer 10 = .ok (.aload_n 0, 1) := by decide +kernel
theorem dX5_clearBuffer_11 : decode cX5_clearBuffer 11 = .ok (.iconst 0, 1) := by decide +kernel
theorem dX5_clearBuffer_12 : decode cX5_clearBuffer 12 = .ok (.putfield 142, 3) := by decide +kernel
theorem dX5_clearBuffer_15 : decode cX5_clearBuffer 15 = .ok (.iload_n 1, 1) := by decide +kernel
theorem dX5_clearBuffer_16 : decode cX5_clearBuffer 16 = .ok (.ireturn, 1) := by decide +kernel
theorem dX5_isWritten_0 : decode cX5_isWritten 0 = .ok (.iload_n 1, 1) := by decide +kernel
theorem dX5_isWritten_1 : decode cX5_isWritten 1 = .ok (.ifCond .lt 31, 3) := by decide +kernel
theorem dX5_isWritten_4 : decode cX5_isWritten 4 = .ok (.iload_n 1, 1) := by decide +kernel
theorem dX5_isWritten_5 : decode cX5_isWritten 5 = .ok (.aload_n 0, 1) := by decide +kernel
theorem dX5_isWritten_6 : decode cX5_isWritten 6 = .ok (.getfield 142, 3) := by decide +kernel
theorem dX5_isWritten_9 : decode cX5_isWritten 9 = .ok (.if_icmp .ge 23, 3) := by decide +kernel
theorem dX5_isWritten_12 : decode cX5_isWritten 12 = .ok (.aload_n 0, 1) := by decide +kernel
theorem dX5_isWritten_13 : decode cX5_isWritten 13 = .ok (.getfield 26, 3) := by decide +kernel
theorem dX5_isWritten_16 : decode cX5_isWritten 16 = .ok (.iload_n 1, 1) := by decide +kernel
theorem dX5_isWritten_17 : decode cX5_isWritten 17 = .ok (.iaload, 1) := by decide +kernel
theorem dX5_isWritten_18 : decode cX5_isWritten 18 = .ok (.bipush 97, 2) := by decide +kernel
theorem dX5_isWritten_20 : decode cX5_isWritten 20 = .ok (.bipush 106, 2) := by decide +kernel
theorem dX5_isWritten_22 : decode cX5_isWritten 22 = .ok (.invokestatic 58, 3) := by decide +kernel
theorem dX5_isWritten_25 : decode cX5_isWritten 25 = .ok (.ifCond .eq 7, 3) := by decide +kernel
theorem dX5_isWritten_28 : decode cX5_isWritten 28 = .ok (.iconst 1, 1) := by decide +kernel
theorem dX5_isWritten_29 : decode cX5_isWritten 29 = .ok (.goto 4, 3) := by decide +kernel
theorem dX5_isWritten_32 : decode cX5_isWritten 32 = .ok (.iconst 0, 1) := by decide +kernel
theorem dX5_isWritten_33 : decode cX5_isWritten 33 = .ok (.ireturn, 1) := by decide +kernel
theorem dX5_errorPlace_0 : decode cX5_errorPlace 0 = .ok (.iconst 0, 1) := by decide +kernel
theorem dX5_errorPlace_1 : decode cX5_errorPlace 1 = .ok (.istore_n 1, 1) := by decide +kernel
theorem dX5_errorPlace_2 : decode cX5_errorPlace 2 = .ok (.iload_n 1, 1) := by decide +kernel
theorem dX5_errorPlace_3 : decode cX5_errorPlace 3 = .ok (.aload_n 0, 1) := by decide +kernel
theorem dX5_errorPlace_4 : decode cX5_errorPlace 4 = .ok (.getfield 142, 3) := by decide +kernel
theorem dX5_errorPlace_7 : decode cX5_errorPlace 7 = .ok (.if_icmp .ge 38, 3) := by decide +kernel
theorem dX5_errorPlace_10 : decode cX5_errorPlace 10 = .ok (.aload_n 0, 1) := by decide +kernel
theorem dX5_errorPlace_11 : decode cX5_errorPlace 11 = .ok (.iload_n 1, 1) := by decide +kernel
theorem dX5_errorPlace_12 : decode cX5_errorPlace 12 = .ok (.invokevirtual 145, 3) := by decide +kernel
theorem dX5_errorPlace_15 : decode cX5_errorPlace 15 = .ok (.ifCond .ne 24, 3) := by decide +kernel
theorem dX5_errorPlace_18 : decode cX5_errorPlace 18 = .ok (.aload_n 0, 1) := by decide +kernel
theorem dX5_errorPlace_19 : decode cX5_errorPlace 19 = .ok (.getfield 26, 3) := by decide +kernel
theorem dX5_errorPlace_22 : decode cX5_errorPlace 22 = .ok (.iload_n 1, 1) := by decide +kernel
theorem dX5_errorPlace_23 : decode cX5_errorPlace 23 = .ok (.iaload, 1) := by decide +kernel
theorem dX5_errorPlace_24 : decode cX5_errorPlace 24 = .ok (.bipush 46, 2) := by decide +kernel
theorem dX5_errorPlace_26 : decode cX5_errorPlace 26 = .ok (.if_icmp .ne 19, 3) := by decide +kernel
theorem dX5_errorPlace_29 : decode cX5_errorPlace 29 = .ok (.aload_n 0, 1) := by decide +kernel
theorem dX5_errorPlace_30 : decode cX5_errorPlace 30 = .ok (.iload_n 1, 1) := by decide +kernel
theorem dX5_errorPlace_31 : decode cX5_errorPlace 31 = .ok (.iconst 1, 1) := by decide +kernel
theorem dX5_errorPlace_32 : decode cX5_errorPlace 32 = .ok (.isub, 1) := by decide +kernel
theorem dX5_errorPlace_33 : decode cX5_errorPlace 33 = .ok (.invokevirtual 145, 3) := by decide +kernel
theorem dX5_errorPlace_36 : decode cX5_errorPlace 36 = .ok (.ifCond .eq 9, 3) := by decide +kernel
theorem dX5_errorPlace_39 : decode cX5_errorPlace 39 = .ok (.iinc 1 1, 3) := by decide +kernel
theorem dX5_errorPlace_42 : decode cX5_errorPlace 42 = .ok (.goto (-40), 3) := by decide +kernel
theorem dX5_errorPlace_45 : decode cX5_errorPlace 45 = .ok (.iload_n 1, 1) := by decide +kernel
theorem dX5_errorPlace_46 : decode cX5_errorPlace 46 = .ok (.ireturn, 1) := by decide +kernel
theorem dX5_firstError_0 : decode cX5_firstError 0 = .ok (.aload_n 0, 1) := by decide +kernel
theorem dX5_firstError_1 : decode cX5_firstError 1 = .ok (.iconst 0, 1) := by decide +kernel
theorem dX5_firstError_2 : decode cX5_firstError 2 = .ok (.putfield 54, 3) := by decide +kernel
theorem dX5_firstError_5 : decode cX5_firstError 5 = .ok (.aload_n 0, 1) := by decide +kernel
theorem dX5_firstError_6 : decode cX5_firstError 6 = .ok (.invokevirtual 148, 3) := by decide +kernel
theorem dX5_firstError_9 : decode cX5_firstError 9 = .ok (.ireturn, 1) := by decide +kernel
theorem dX5_isText_0 : decode cX5_isText 0 = .ok (.aload_n 0, 1) := by decide +kernel
theorem dX5_isText_1 : decode cX5_isText 1 = .ok (.invokevirtual 148, 3) := by decide +kernel
theorem dX5_isText_4 : decode cX5_isText 4 = .ok (.aload_n 0, 1) := by decide +kernel
theorem dX5_isText_5 : decode cX5_isText 5 = .ok (.getfield 142, 3) := by decide +kernel
theorem dX5_isText_8 : decode cX5_isText 8 = .ok (.if_icmp .ne 20, 3) := by decide +kernel
theorem dX5_isText_11 : decode cX5_isText 11 = .ok (.aload_n 0, 1) := by decide +kernel
theorem dX5_isText_12 : decode cX5_isText 12 = .ok (.aload_n 0, 1) := by decide +kernel
theorem dX5_isText_13 : decode cX5_isText 13 = .ok (.getfield 142, 3) := by decide +kernel
theorem dX5_isText_16 : decode cX5_isText 16 = .ok (.iconst 1, 1) := by decide +kernel
theorem dX5_isText_17 : decode cX5_isText 17 = .ok (.isub, 1) := by decide +kernel
theorem dX5_isText_18 : decode cX5_isText 18 = .ok (.invokevirtual 145, 3) := by decide +kernel
theorem dX5_isText_21 : decode cX5_isText 21 = .ok (.ifCond .eq 7, 3) := by decide +kernel
theorem dX5_isText_24 : decode cX5_isText 24 = .ok (.iconst 1, 1) := by decide +kernel
theorem dX5_isText_25 : decode cX5_isText 25 = .ok (.goto 4, 3) := by decide +kernel
theorem dX5_isText_28 : decode cX5_isText 28 = .ok (.iconst 0, 1) := by decide +kernel
theorem dX5_isText_29 : decode cX5_isText 29 = .ok (.ireturn, 1) := by decide +kernel
theorem dX5_pairAt_0 : decode cX5_pairAt 0 = .ok (.bipush 10, 2) := by decide +kernel
theorem dX5_pairAt_2 : decode cX5_pairAt 2 = .ok (.aload_n 0, 1) := by decide +kernel
theorem dX5_pairAt_3 : decode cX5_pairAt 3 = .ok (.getfield 26, 3) := by decide +kernel
theorem dX5_pairAt_6 : decode cX5_pairAt 6 = .ok (.iload_n 1, 1) := by decide +kernel
theorem dX5_pairAt_7 : decode cX5_pairAt 7 = .ok (.iaload, 1) := by decide +kernel
theorem dX5_pairAt_8 : decode cX5_pairAt 8 = .ok (.bipush 97, 2) := by decide +kernel
theorem dX5_pairAt_10 : decode cX5_pairAt 10 = .ok (.isub, 1) := by decide +kernel
theorem dX5_pairAt_11 : decode cX5_pairAt 11 = .ok (.imul, 1) := by decide +kernel
theorem dX5_pairAt_12 : decode cX5_pairAt 12 = .ok (.aload_n 0, 1) := by decide +kernel
theorem dX5_pairAt_13 : decode cX5_pairAt 13 = .ok (.getfield 26, 3) := by decide +kernel
theorem dX5_pairAt_16 : decode cX5_pairAt 16 = .ok (.iload_n 1, 1) := by decide +kernel
theorem dX5_pairAt_17 : decode cX5_pairAt 17 = .ok (.iconst 1, 1) := by decide +kernel
theorem dX5_pairAt_18 : decode cX5_pairAt 18 = .ok (.iadd, 1) := by decide +kernel
theorem dX5_pairAt_19 : decode cX5_pairAt 19 = .ok (.iaload, 1) := by decide +kernel
theorem dX5_pairAt_20 : decode cX5_pairAt 20 = .ok (.iadd, 1) := by decide +kernel
theorem dX5_pairAt_21 : decode cX5_pairAt 21 = .ok (.bipush 97, 2) := by decide +kernel
theorem dX5_pairAt_23 : decode cX5_pairAt 23 = .ok (.isub, 1) := by decide +kernel
theorem dX5_pairAt_24 : decode cX5_pairAt 24 = .ok (.ireturn, 1) := by decide +kernel
theorem dX5_circleAt_0 : decode cX5_circleAt 0 = .ok (.iload_n 1, 1) := by decide +kernel
theorem dX5_circleAt_1 : decode cX5_circleAt 1 = .ok (.bipush 60, 2) := by decide +kernel
theorem dX5_circleAt_3 : decode cX5_circleAt 3 = .ok (.if_icmp .ge 25, 3) := by decide +kernel
theorem dX5_circleAt_6 : decode cX5_circleAt 6 = .ok (.aload_n 0, 1) := by decide +kernel
theorem dX5_circleAt_7 : decode cX5_circleAt 7 = .ok (.iload_n 1, 1) := by decide +kernel
theorem dX5_circleAt_8 : decode cX5_circleAt 8 = .ok (.invokevirtual 145, 3) := by decide +kernel
theorem dX5_circleAt_11 : decode cX5_circleAt 11 = .ok (.ifCond .eq 17, 3) := by decide +kernel
theorem dX5_circleAt_14 : decode cX5_circleAt 14 = .ok (.aload_n 0, 1) := by decide +kernel
theorem dX5_circleAt_15 : decode cX5_circleAt 15 = .ok (.iload_n 1, 1) := by decide +kernel
theorem dX5_circleAt_16 : decode cX5_circleAt 16 = .ok (.iconst 1, 1) := by decide +kernel
theorem dX5_circleAt_17 : decode cX5_circleAt 17 = .ok (.iadd, 1) := by decide +kernel
theorem dX5_circleAt_18 : decode cX5_circleAt 18 = .ok (.invokevirtual 145, 3) := by decide +kernel
theorem dX5_circleAt_21 : decode cX5_circleAt 21 = .ok (.ifCond .eq 7, 3) := by decide +kernel
theorem dX5_circleAt_24 : decode cX5_circleAt 24 = .ok (.iconst 1, 1) := by decide +kernel
theorem dX5_circleAt_25 : decode cX5_circleAt 25 = .ok (.goto 4, 3) := by decide +kernel
theorem dX5_circleAt_28 : decode cX5_circleAt 28 = .ok (.iconst 0, 1) := by decide +kernel
theorem dX5_circleAt_29 : decode cX5_circleAt 29 = .ok (.istore_n 3, 1) := by decide +kernel
theorem dX5_circleAt_30 : decode cX5_circleAt 30 = .ok (.aload_n 0, 1) := by decide +kernel
theorem dX5_circleAt_31 : decode cX5_circleAt 31 = .ok (.aload_n 0, 1) := by decide +kernel
theorem dX5_circleAt_32 : decode cX5_circleAt 32 = .ok (.invokevirtual 151, 3) := by decide +kernel
theorem dX5_circleAt_35 : decode cX5_circleAt 35 = .ok (.ifCond .ne 7, 3) := by decide +kernel
theorem dX5_circleAt_38 : decode cX5_circleAt 38 = .ok (.iconst 1, 1) := by decide +kernel
theorem dX5_circleAt_39 : decode cX5_circleAt 39 = .ok (.goto 23, 3) := by decide +kernel
theorem dX5_circleAt_42 : decode cX5_circleAt 42 = .ok (.iload_n 3, 1) := by decide +kernel
theorem dX5_circleAt_43 : decode cX5_circleAt 43 = .ok (.ifCond .ne 7, 3) := by decide +kernel
theorem dX5_circleAt_46 : decode cX5_circleAt 46 = .ok (.iconst 2, 1) := by decide +kernel
theorem dX5_circleAt_47 : decode cX5_circleAt 47 = .ok (.goto 15, 3) := by decide +kernel
theorem dX5_circleAt_50 : decode cX5_circleAt 50 = .ok (.iload_n 2, 1) := by decide +kernel
theorem dX5_circleAt_51 : decode cX5_circleAt 51 = .ok (.invokestatic 130, 3) := by decide +kernel
theorem dX5_circleAt_54 : decode cX5_circleAt 54 = .ok (.ifCond .ne 7, 3) := by decide +kernel
theorem dX5_circleAt_57 : decode cX5_circleAt 57 = .ok (.iconst 3, 1) := by decide +kernel
theorem dX5_circleAt_58 : decode cX5_circleAt 58 = .ok (.goto 4, 3) := by decide +kernel
theorem dX5_circleAt_61 : decode cX5_circleAt 61 = .ok (.iconst 0, 1) := by decide +kernel
theorem dX5_circleAt_62 : decode cX5_circleAt 62 = .ok (.invokevirtual 118, 3) := by decide +kernel
theorem dX5_circleAt_65 : decode cX5_circleAt 65 = .ok (.ifCond .ne 5, 3) := by decide +kernel
theorem dX5_circleAt_68 : decode cX5_circleAt 68 = .ok (.iconst 0, 1) := by decide +kernel
theorem dX5_circleAt_69 : decode cX5_circleAt 69 = .ok (.ireturn, 1) := by decide +kernel
theorem dX5_circleAt_70 : decode cX5_circleAt 70 = .ok (.aload_n 0, 1) := by decide +kernel
theorem dX5_circleAt_71 : decode cX5_circleAt 71 = .ok (.invokevirtual 121, 3) := by decide +kernel
theorem dX5_circleAt_74 : decode cX5_circleAt 74 = .ok (.aload_n 0, 1) := by decide +kernel
theorem dX5_circleAt_75 : decode cX5_circleAt 75 = .ok (.aload_n 0, 1) := by decide +kernel
theorem dX5_circleAt_76 : decode cX5_circleAt 76 = .ok (.iload_n 1, 1) := by decide +kernel
theorem dX5_circleAt_77 : decode cX5_circleAt 77 = .ok (.invokevirtual 155, 3) := by decide +kernel
theorem dX5_circleAt_80 : decode cX5_circleAt 80 = .ok (.iload_n 2, 1) := by decide +kernel
theorem dX5_circleAt_81 : decode cX5_circleAt 81 = .ok (.invokevirtual 133, 3) := by decide +kernel
theorem dX5_circleAt_84 : decode cX5_circleAt 84 = .ok (.ireturn, 1) := by decide +kernel
theorem dX5_keep_0 : decode cX5_keep 0 = .ok (.aload_n 0, 1) := by decide +kernel
theorem dX5_keep_1 : decode cX5_keep 1 = .ok (.iload_n 1, 1) := by decide +kernel
theorem dX5_keep_2 : decode cX5_keep 2 = .ok (.invokestatic 158, 3) := by decide +kernel
theorem dX5_keep_5 : decode cX5_keep 5 = .ok (.ifCond .eq 7, 3) := by decide +kernel
theorem dX5_keep_8 : decode cX5_keep 8 = .ok (.iconst 0, 1) := by decide +kernel
theorem dX5_keep_9 : decode cX5_keep 9 = .ok (.goto 4, 3) := by decide +kernel
theorem dX5_keep_12 : decode cX5_keep 12 = .ok (.iconst 1, 1) := by decide +kernel
theorem dX5_keep_13 : decode cX5_keep 13 = .ok (.invokevirtual 118, 3) := by decide +kernel
theorem dX5_keep_16 : decode cX5_keep 16 = .ok (.ifCond .ne 5, 3) := by decide +kernel
theorem dX5_keep_19 : decode cX5_keep 19 = .ok (.iconst 0, 1) := by decide +kernel
theorem dX5_keep_20 : decode cX5_keep 20 = .ok (.ireturn, 1) := by decide +kernel
theorem dX5_keep_21 : decode cX5_keep 21 = .ok (.aload_n 0, 1) := by decide +kernel
theorem dX5_keep_22 : decode cX5_keep 22 = .ok (.getfield 7, 3) := by decide +kernel
theorem dX5_keep_25 : decode cX5_keep 25 = .ok (.iconst 0, 1) := by decide +kernel
theorem dX5_keep_26 : decode cX5_keep 26 = .ok (.aload_n 0, 1) := by decide +kernel
theorem dX5_keep_27 : decode cX5_keep 27 = .ok (.getfield 16, 3) := by decide +kernel
theorem dX5_keep_30 : decode cX5_keep 30 = .ok (.sipush 174, 3) := by decide +kernel
theorem dX5_keep_33 : decode cX5_keep 33 = .ok (.iload_n 1, 1) := by decide +kernel
theorem dX5_keep_34 : decode cX5_keep 34 = .ok (.imul, 1) := by decide +kernel
theorem dX5_keep_35 : decode cX5_keep 35 = .ok (.invokestatic 69, 3) := by decide +kernel
theorem dX5_keep_38 : decode cX5_keep 38 = .ok (.aload_n 0, 1) := by decide +kernel
theorem dX5_keep_39 : decode cX5_keep 39 = .ok (.getfield 19, 3) := by decide +kernel
theorem dX5_keep_42 : decode cX5_keep 42 = .ok (.iload_n 1, 1) := by decide +kernel
theorem dX5_keep_43 : decode cX5_keep 43 = .ok (.iconst 1, 1) := by decide +kernel
theorem dX5_keep_44 : decode cX5_keep 44 = .ok (.bastore, 1) := by decide +kernel
theorem dX5_keep_45 : decode cX5_keep 45 = .ok (.aload_n 0, 1) := by decide +kernel
theorem dX5_keep_46 : decode cX5_keep 46 = .ok (.getfield 7, 3) := by decide +kernel
theorem dX5_keep_49 : decode cX5_keep 49 = .ok (.iconst 0, 1) := by decide +kernel
theorem dX5_keep_50 : decode cX5_keep 50 = .ok (.iaload, 1) := by decide +kernel
theorem dX5_keep_51 : decode cX5_keep 51 = .ok (.ireturn, 1) := by decide +kernel
theorem dX5_goBack_0 : decode cX5_goBack 0 = .ok (.aload_n 0, 1) := by decide +kernel
theorem dX5_goBack_1 : decode cX5_goBack 1 = .ok (.iload_n 1, 1) := by decide +kernel
theorem dX5_goBack_2 : decode cX5_goBack 2 = .ok (.invokestatic 158, 3) := by decide +kernel
theorem dX5_goBack_5 : decode cX5_goBack 5 = .ok (.ifCond .ne 7, 3) := by decide +kernel
theorem dX5_goBack_8 : decode cX5_goBack 8 = .ok (.iconst 1, 1) := by decide +kernel
theorem dX5_goBack_9 : decode cX5_goBack 9 = .ok (.goto 17, 3) := by decide +kernel
theorem dX5_goBack_12 : decode cX5_goBack 12 = .ok (.aload_n 0, 1) := by decide +kernel
theorem dX5_goBack_13 : decode cX5_goBack 13 = .ok (.getfield 19, 3) := by decide +kernel
theorem dX5_goBack_16 : decode cX5_goBack 16 = .ok (.iload_n 1, 1) := by decide +kernel
theorem dX5_goBack_17 : decode cX5_goBack 17 = .ok (.baload, 1) := by decide +kernel
theorem dX5_goBack_18 : decode cX5_goBack 18 = .ok (.ifCond .eq 7, 3) := by decide +kernel
theorem dX5_goBack_21 : decode cX5_goBack 21 = .ok (.iconst 0, 1) := by decide +kernel
theorem dX5_goBack_22 : decode cX5_goBack 22 = .ok (.goto 4, 3) := by decide +kernel
theorem dX5_goBack_25 : decode cX5_goBack 25 = .ok (.iconst 2, 1) := by decide +kernel
theorem dX5_goBack_26 : decode cX5_goBack 26 = .ok (.invokevirtual 118, 3) := by decide +kernel
theorem dX5_goBack_29 : decode cX5_goBack 29 = .ok (.ifCond .ne 5, 3) := by decide +kernel
theorem dX5_goBack_32 : decode cX5_goBack 32 = .ok (.iconst 0, 1) := by decide +kernel
theorem dX5_goBack_33 : decode cX5_goBack 33 = .ok (.ireturn, 1) := by decide +kernel
theorem dX5_goBack_34 : decode cX5_goBack 34 = .ok (.aload_n 0, 1) := by decide +kernel
theorem dX5_goBack_35 : decode cX5_goBack 35 = .ok (.invokevirtual 121, 3) := by decide +kernel
theorem dX5_goBack_38 : decode cX5_goBack 38 = .ok (.aload_n 0, 1) := by decide +kernel
theorem dX5_goBack_39 : decode cX5_goBack 39 = .ok (.getfield 16, 3) := by decide +kernel
theorem dX5_goBack_42 : decode cX5_goBack 42 = .ok (.sipush 174, 3) := by decide +kernel
theorem dX5_goBack_45 : decode cX5_goBack 45 = .ok (.iload_n 1, 1) := by decide +kernel
theorem dX5_goBack_46 : decode cX5_goBack 46 = .ok (.imul, 1) := by decide +kernel
theorem dX5_goBack_47 : decode cX5_goBack 47 = .ok (.aload_n 0, 1) := by decide +kernel
theorem dX5_goBack_48 : decode cX5_goBack 48 = .ok (.getfield 7, 3) := by decide +kernel
theorem dX5_goBack_51 : decode cX5_goBack 51 = .ok (.iconst 0, 1) := by decide +kernel
theorem dX5_goBack_52 : decode cX5_goBack 52 = .ok (.invokestatic 69, 3) := by decide +kernel
theorem dX5_goBack_55 : decode cX5_goBack 55 = .ok (.aload_n 0, 1) := by decide +kernel
theorem dX5_goBack_56 : decode cX5_goBack 56 = .ok (.getfield 7, 3) := by decide +kernel
theorem dX5_goBack_59 : decode cX5_goBack 59 = .ok (.iconst 0, 1) := by decide +kernel
theorem dX5_goBack_60 : decode cX5_goBack 60 = .ok (.iaload, 1) := by decide +kernel
theorem dX5_goBack_61 : decode cX5_goBack 61 = .ok (.ireturn, 1) := by decide +kernel
theorem dX5_undo_0 : decode cX5_undo 0 = .ok (.aload_n 0, 1) := by decide +kernel
theorem dX5_undo_1 : decode cX5_undo 1 = .ok (.aload_n 0, 1) := by decide +kernel
theorem dX5_undo_2 : decode cX5_undo 2 = .ok (.getfield 66, 3) := by decide +kernel
theorem dX5_undo_5 : decode cX5_undo 5 = .ok (.ifCond .le 7, 3) := by decide +kernel
theorem dX5_undo_8 : decode cX5_undo 8 = .ok (.iconst 0, 1) := by decide +kernel
theorem dX5_undo_9 : decode cX5_undo 9 = .ok (.goto 4, 3) := by decide +kernel
theorem dX5_undo_12 : decode cX5_undo 12 = .ok (.iconst 1, 1) := by decide +kernel
theorem dX5_undo_13 : decode cX5_undo 13 = .ok (.invokevirtual 118, 3) := by decide +kernel
theorem dX5_undo_16 : decode cX5_undo 16 = .ok (.ifCond .ne 5, 3) := by decide +kernel
theorem dX5_undo_19 : decode cX5_undo 19 = .ok (.iconst 0, 1) := by decide +kernel
theorem dX5_undo_20 : decode cX5_undo 20 = .ok (.ireturn, 1) := by decide +kernel
theorem dX5_undo_21 : decode cX5_undo 21 = .ok (.aload_n 0, 1) := by decide +kernel
theorem dX5_undo_22 : decode cX5_undo 22 = .ok (.dup, 1) := by decide +kernel
theorem dX5_undo_23 : decode cX5_undo 23 = .ok (.getfield 66, 3) := by decide +kernel
theorem dX5_undo_26 : decode cX5_undo 26 = .ok (.iconst 1, 1) := by decide +kernel
theorem dX5_undo_27 : decode cX5_undo 27 = .ok (.isub, 1) := by decide +kernel
theorem dX5_undo_28 : decode cX5_undo 28 = .ok (.putfield 66, 3) := by decide +kernel
theorem dX5_undo_31 : decode cX5_undo 31 = .ok (.aload_n 0, 1) := by decide +kernel
theorem dX5_undo_32 : decode cX5_undo 32 = .ok (.getfield 13, 3) := by decide +kernel
theorem dX5_undo_35 : decode cX5_undo 35 = .ok (.sipush 174, 3) := by decide +kernel
theorem dX5_undo_38 : decode cX5_undo 38 = .ok (.aload_n 0, 1) := by decide +kernel
theorem dX5_undo_39 : decode cX5_undo 39 = .ok (.getfield 66, 3) := by decide +kernel
theorem dX5_undo_42 : decode cX5_undo 42 = .ok (.imul, 1) := by decide +kernel
theorem dX5_undo_43 : decode cX5_undo 43 = .ok (.aload_n 0, 1) := by decide +kernel
theorem dX5_undo_44 : decode cX5_undo 44 = .ok (.getfield 7, 3) := by decide +kernel
theorem dX5_undo_47 : decode cX5_undo 47 = .ok (.iconst 0, 1) := by decide +kernel
theorem dX5_undo_48 : decode cX5_undo 48 = .ok (.invokestatic 69, 3) := by decide +kernel
theorem dX5_undo_51 : decode cX5_undo 51 = .ok (.aload_n 0, 1) := by decide +kernel
theorem dX5_undo_52 : decode cX5_undo 52 = .ok (.getfield 66, 3) := by decide +kernel
theorem dX5_undo_55 : decode cX5_undo 55 = .ok (.ireturn, 1) := by decide +kernel
theorem dX5_lessonsWith_0 : decode cX5_lessonsWith 0 = .ok (.iconst 0, 1) := by decide +kernel
theorem dX5_lessonsWith_1 : decode cX5_lessonsWith 1 = .ok (.istore_n 2, 1) := by decide +kernel
theorem dX5_lessonsWith_2 : decode cX5_lessonsWith 2 = .ok (.iconst 0, 1) := by decide +kernel
theorem dX5_lessonsWith_3 : decode cX5_lessonsWith 3 = .ok (.istore_n 3, 1) := by decide +kernel
theorem dX5_lessonsWith_4 : decode cX5_lessonsWith 4 = .ok (.iload_n 3, 1) := by decide +kernel
theorem dX5_lessonsWith_5 : decode cX5_lessonsWith 5 = .ok (.aload_n 0, 1) := by decide +kernel
theorem dX5_lessonsWith_6 : decode cX5_lessonsWith 6 = .ok (.getfield 7, 3) := by decide +kernel
theorem dX5_lessonsWith_9 : decode cX5_lessonsWith 9 = .ok (.iconst 0, 1) := by decide +kernel
theorem dX5_lessonsWith_10 : decode cX5_lessonsWith 10 = .ok (.iaload, 1) := by decide +kernel
theorem dX5_lessonsWith_11 : decode cX5_lessonsWith 11 = .ok (.if_icmp .ge 43, 3) := by decide +kernel
theorem dX5_lessonsWith_14 : decode cX5_lessonsWith 14 = .ok (.iload_n 2, 1) := by decide +kernel
theorem dX5_lessonsWith_15 : decode cX5_lessonsWith 15 = .ok (.aload_n 0, 1) := by decide +kernel
theorem dX5_lessonsWith_16 : decode cX5_lessonsWith 16 = .ok (.iload_n 3, 1) := by decide +kernel
theorem dX5_lessonsWith_17 : decode cX5_lessonsWith 17 = .ok (.iconst 0, 1) := by decide +kernel
theorem dX5_lessonsWith_18 : decode cX5_lessonsWith 18 = .ok (.invokevirtual 80, 3) := by decide +kernel
theorem dX5_lessonsWith_21 : decode cX5_lessonsWith 21 = .ok (.iload_n 1, 1) := by decide +kernel
theorem dX5_lessonsWith_22 : decode cX5_lessonsWith 22 = .ok (.if_icmp .ne 7, 3) := by decide +kernel
theorem dX5_lessonsWith_25 : decode cX5_lessonsWith 25 = .ok (.iconst 1, 1) := by decide +kernel
theorem dX5_lessonsWith_26 : decode cX5_lessonsWith 26 = .ok (.goto 4, 3) := by decide +kernel
theorem dX5_lessonsWith_29 : decode cX5_lessonsWith 29 = .ok (.iconst 0, 1) := by decide +kernel
theorem dX5_lessonsWith_30 : decode cX5_lessonsWith 30 = .ok (.aload_n 0, 1) := by decide +kernel
theorem dX5_lessonsWith_31 : decode cX5_lessonsWith 31 = .ok (.iload_n 3, 1) := by decide +kernel
theorem dX5_lessonsWith_32 : decode cX5_lessonsWith 32 = .ok (.iconst 1, 1) := by decide +kernel
theorem dX5_lessonsWith_33 : decode cX5_lessonsWith 33 = .ok (.invokevirtual 80, 3) := by decide +kernel
theorem dX5_lessonsWith_36 : decode cX5_lessonsWith 36 = .ok (.iload_n 1, 1) := by decide +kernel
theorem dX5_lessonsWith_37 : decode cX5_lessonsWith 37 = .ok (.if_icmp .ne 7, 3) := by decide +kernel
theorem dX5_lessonsWith_40 : decode cX5_lessonsWith 40 = .ok (.iconst 1, 1) := by decide +kernel
theorem dX5_lessonsWith_41 : decode cX5_lessonsWith 41 = .ok (.goto 4, 3) := by decide +kernel
theorem dX5_lessonsWith_44 : decode cX5_lessonsWith 44 = .ok (.iconst 0, 1) := by decide +kernel
theorem dX5_lessonsWith_45 : decode cX5_lessonsWith 45 = .ok (.iadd, 1) := by decide +kernel
theorem dX5_lessonsWith_46 : decode cX5_lessonsWith 46 = .ok (.iadd, 1) := by decide +kernel
theorem dX5_lessonsWith_47 : decode cX5_lessonsWith 47 = .ok (.istore_n 2, 1) := by decide +kernel
theorem dX5_lessonsWith_48 : decode cX5_lessonsWith 48 = .ok (.iinc 3 1, 3) := by decide +kernel
theorem dX5_lessonsWith_51 : decode cX5_lessonsWith 51 = .ok (.goto (-47), 3) := by decide +kernel
theorem dX5_lessonsWith_54 : decode cX5_lessonsWith 54 = .ok (.iload_n 2, 1) := by decide +kernel
theorem dX5_lessonsWith_55 : decode cX5_lessonsWith 55 = .ok (.ireturn, 1) := by decide +kernel
theorem dX5_letterTold_0 : decode cX5_letterTold 0 = .ok (.iload_n 2, 1) := by decide +kernel
theorem dX5_letterTold_1 : decode cX5_letterTold 1 = .ok (.iconst 3, 1) := by decide +kernel
theorem dX5_letterTold_2 : decode cX5_letterTold 2 = .ok (.if_icmp .ne 11, 3) := by decide +kernel
theorem dX5_letterTold_5 : decode cX5_letterTold 5 = .ok (.aload_n 0, 1) := by decide +kernel
theorem dX5_letterTold_6 : decode cX5_letterTold 6 = .ok (.iload_n 1, 1) := by decide +kernel
theorem dX5_letterTold_7 : decode cX5_letterTold 7 = .ok (.invokevirtual 161, 3) := by decide +kernel
theorem dX5_letterTold_10 : decode cX5_letterTold 10 = .ok (.goto 9, 3) := by decide +kernel
theorem dX5_letterTold_13 : decode cX5_letterTold 13 = .ok (.aload_n 0, 1) := by decide +kernel
theorem dX5_letterTold_14 : decode cX5_letterTold 14 = .ok (.iload_n 1, 1) := by decide +kernel
theorem dX5_letterTold_15 : decode cX5_letterTold 15 = .ok (.iload_n 2, 1) := by decide +kernel
theorem dX5_letterTold_16 : decode cX5_letterTold 16 = .ok (.invokevirtual 62, 3) := by decide +kernel
theorem dX5_letterTold_19 : decode cX5_letterTold 19 = .ok (.ireturn, 1) := by decide +kernel
theorem dX5_letterOf_0 : decode cX5_letterOf 0 = .ok (.aload_n 0, 1) := by decide +kernel
theorem dX5_letterOf_1 : decode cX5_letterOf 1 = .ok (.iload_n 1, 1) := by decide +kernel
theorem dX5_letterOf_2 : decode cX5_letterOf 2 = .ok (.invokestatic 114, 3) := by decide +kernel
theorem dX5_letterOf_5 : decode cX5_letterOf 5 = .ok (.ifCond .ne 7, 3) := by decide +kernel
theorem dX5_letterOf_8 : decode cX5_letterOf 8 = .ok (.iconst 1, 1) := by decide +kernel
theorem dX5_letterOf_9 : decode cX5_letterOf 9 = .ok (.goto 17, 3) := by decide +kernel
theorem dX5_letterOf_12 : decode cX5_letterOf 12 = .ok (.iload_n 2, 1) := by decide +kernel
theorem dX5_letterOf_13 : decode cX5_letterOf 13 = .ok (.iconst 0, 1) := by decide +kernel
theorem dX5_letterOf_14 : decode cX5_letterOf 14 = .ok (.iconst 3, 1) := by decide +kernel
theorem dX5_letterOf_15 : decode cX5_letterOf 15 = .ok (.invokestatic 58, 3) := by decide +kernel
theorem dX5_letterOf_18 : decode cX5_letterOf 18 = .ok (.ifCond .ne 7, 3) := by decide +kernel
theorem dX5_letterOf_21 : decode cX5_letterOf 21 = .ok (.iconst 2, 1) := by decide +kernel
theorem dX5_letterOf_22 : decode cX5_letterOf 22 = .ok (.goto 4, 3) := by decide +kernel
theorem dX5_letterOf_25 : decode cX5_letterOf 25 = .ok (.iconst 0, 1) := by decide +kernel
theorem dX5_letterOf_26 : decode cX5_letterOf 26 = .ok (.invokevirtual 118, 3) := by decide +kernel
theorem dX5_letterOf_29 : decode cX5_letterOf 29 = .ok (.ifCond .eq 12, 3) := by decide +kernel
theorem dX5_letterOf_32 : decode cX5_letterOf 32 = .ok (.aload_n 0, 1) := by decide +kernel
theorem dX5_letterOf_33 : decode cX5_letterOf 33 = .ok (.iload_n 1, 1) := by decide +kernel
theorem dX5_letterOf_34 : decode cX5_letterOf 34 = .ok (.iload_n 2, 1) := by decide +kernel
theorem dX5_letterOf_35 : decode cX5_letterOf 35 = .ok (.invokevirtual 164, 3) := by decide +kernel
theorem dX5_letterOf_38 : decode cX5_letterOf 38 = .ok (.goto 4, 3) := by decide +kernel
theorem dX5_letterOf_41 : decode cX5_letterOf 41 = .ok (.iconst 0, 1) := by decide +kernel
theorem dX5_letterOf_42 : decode cX5_letterOf 42 = .ok (.ireturn, 1) := by decide +kernel
theorem dX5_pairTold_0 : decode cX5_pairTold 0 = .ok (.iload_n 2, 1) := by decide +kernel
theorem dX5_pairTold_1 : decode cX5_pairTold 1 = .ok (.tableswitch 57 0 3 #[31, 31, 40, 50], 31) := by decide +kernel
theorem dX5_pairTold_32 : decode cX5_pairTold 32 = .ok (.aload_n 0, 1) := by decide +kernel
theorem dX5_pairTold_33 : decode cX5_pairTold 33 = .ok (.iload_n 1, 1) := by decide +kernel
theorem dX5_pairTold_34 : decode cX5_pairTold 34 = .ok (.invokevirtual 77, 3) := by decide +kernel
theorem dX5_pairTold_37 : decode cX5_pairTold 37 = .ok (.bipush 100, 2) := by decide +kernel
theorem dX5_pairTold_39 : decode cX5_pairTold 39 = .ok (.iadd, 1) := by decide +kernel
theorem dX5_pairTold_40 : decode cX5_pairTold 40 = .ok (.ireturn, 1) := by decide +kernel
theorem dX5_pairTold_41 : decode cX5_pairTold 41 = .ok (.aload_n 0, 1) := by decide +kernel
theorem dX5_pairTold_42 : decode cX5_pairTold 42 = .ok (.getfield 32, 3) := by decide +kernel
theorem dX5_pairTold_45 : decode cX5_pairTold 45 = .ok (.iload_n 1, 1) := by decide +kernel
theorem dX5_pairTold_46 : decode cX5_pairTold 46 = .ok (.iaload, 1) := by decide +kernel
theorem dX5_pairTold_47 : decode cX5_pairTold 47 = .ok (.bipush 100, 2) := by decide +kernel
theorem dX5_pairTold_49 : decode cX5_pairTold 49 = .ok (.iadd, 1) := by decide +kernel
theorem dX5_pairTold_50 : decode cX5_pairTold 50 = .ok (.ireturn, 1) := by decide +kernel
theorem dX5_pairTold_51 : decode cX5_pairTold 51 = .ok (.aload_n 0, 1) := by decide +kernel
theorem dX5_pairTold_52 : decode cX5_pairTold 52 = .ok (.getfield 35, 3) := by decide +kernel
theorem dX5_pairTold_55 : decode cX5_pairTold 55 = .ok (.iload_n 1, 1) := by decide +kernel
theorem dX5_pairTold_56 : decode cX5_pairTold 56 = .ok (.iaload, 1) := by decide +kernel
theorem dX5_pairTold_57 : decode cX5_pairTold 57 = .ok (.ireturn, 1) := by decide +kernel
theorem dX5_pairTold_58 : decode cX5_pairTold 58 = .ok (.aload_n 0, 1) := by decide +kernel
theorem dX5_pairTold_59 : decode cX5_pairTold 59 = .ok (.getfield 41, 3) := by decide +kernel
theorem dX5_pairTold_62 : decode cX5_pairTold 62 = .ok (.iload_n 1, 1) := by decide +kernel
theorem dX5_pairTold_63 : decode cX5_pairTold 63 = .ok (.iaload, 1) := by decide +kernel
theorem dX5_pairTold_64 : decode cX5_pairTold 64 = .ok (.ireturn, 1) := by decide +kernel
theorem dX5_pairOf_0 : decode cX5_pairOf 0 = .ok (.aload_n 0, 1) := by decide +kernel
theorem dX5_pairOf_1 : decode cX5_pairOf 1 = .ok (.iload_n 1, 1) := by decide +kernel
theorem dX5_pairOf_2 : decode cX5_pairOf 2 = .ok (.invokestatic 114, 3) := by decide +kernel
theorem dX5_pairOf_5 : decode cX5_pairOf 5 = .ok (.ifCond .eq 10, 3) := by decide +kernel
theorem dX5_pairOf_8 : decode cX5_pairOf 8 = .ok (.iload_n 2, 1) := by decide +kernel
theorem dX5_pairOf_9 : decode cX5_pairOf 9 = .ok (.invokestatic 114, 3) := by decide +kernel
theorem dX5_pairOf_12 : decode cX5_pairOf 12 = .ok (.ifCond .ne 7, 3) := by decide +kernel
theorem dX5_pairOf_15 : decode cX5_pairOf 15 = .ok (.iconst 1, 1) := by decide +kernel
theorem dX5_pairOf_16 : decode cX5_pairOf 16 = .ok (.goto 17, 3) := by decide +kernel
theorem dX5_pairOf_19 : decode cX5_pairOf 19 = .ok (.iload_n 3, 1) := by decide +kernel
theorem dX5_pairOf_20 : decode cX5_pairOf 20 = .ok (.iconst 0, 1) := by decide +kernel
theorem dX5_pairOf_21 : decode cX5_pairOf 21 = .ok (.iconst 4, 1) := by decide +kernel
theorem dX5_pairOf_22 : decode cX5_pairOf 22 = .ok (.invokestatic 58, 3) := by decide +kernel
theorem dX5_pairOf_25 : decode cX5_pairOf 25 = .ok (.ifCond .ne 7, 3) := by decide +kernel
theorem dX5_pairOf_28 : decode cX5_pairOf 28 = .ok (.iconst 2, 1) := by decide +kernel
theorem dX5_pairOf_29 : decode cX5_pairOf 29 = .ok (.goto 4, 3) := by decide +kernel
theorem dX5_pairOf_32 : decode cX5_pairOf 32 = .ok (.iconst 0, 1) := by decide +kernel
theorem dX5_pairOf_33 : decode cX5_pairOf 33 = .ok (.invokevirtual 118, 3) := by decide +kernel
theorem dX5_pairOf_36 : decode cX5_pairOf 36 = .ok (.ifCond .ne 5, 3) := by decide +kernel
theorem dX5_pairOf_39 : decode cX5_pairOf 39 = .ok (.iconst 0, 1) := by decide +kernel
theorem dX5_pairOf_40 : decode cX5_pairOf 40 = .ok (.ireturn, 1) := by decide +kernel
theorem dX5_pairOf_41 : decode cX5_pairOf 41 = .ok (.aload_n 0, 1) := by decide +kernel
theorem dX5_pairOf_42 : decode cX5_pairOf 42 = .ok (.invokevirtual 98, 3) := by decide +kernel
theorem dX5_pairOf_45 : decode cX5_pairOf 45 = .ok (.aload_n 0, 1) := by decide +kernel
theorem dX5_pairOf_46 : decode cX5_pairOf 46 = .ok (.bipush 10, 2) := by decide +kernel
theorem dX5_pairOf_48 : decode cX5_pairOf 48 = .ok (.iload_n 1, 1) := by decide +kernel
theorem dX5_pairOf_49 : decode cX5_pairOf 49 = .ok (.imul, 1) := by decide +kernel
theorem dX5_pairOf_50 : decode cX5_pairOf 50 = .ok (.iload_n 2, 1) := by decide +kernel
theorem dX5_pairOf_51 : decode cX5_pairOf 51 = .ok (.iadd, 1) := by decide +kernel
theorem dX5_pairOf_52 : decode cX5_pairOf 52 = .ok (.iload_n 3, 1) := by decide +kernel
theorem dX5_pairOf_53 : decode cX5_pairOf 53 = .ok (.invokevirtual 167, 3) := by decide +kernel
theorem dX5_pairOf_56 : decode cX5_pairOf 56 = .ok (.ireturn, 1) := by decide +kernel
theorem dX5_pairsAt_0 : decode cX5_pairsAt 0 = .ok (.iconst 0, 1) := by decide +kernel
theorem dX5_pairsAt_1 : decode cX5_pairsAt 1 = .ok (.istore_n 3, 1) := by decide +kernel
theorem dX5_pairsAt_2 : decode cX5_pairsAt 2 = .ok (.iconst 0, 1) := by decide +kernel
theorem dX5_pairsAt_3 : decode cX5_pairsAt 3 = .ok (.istore 4, 2) := by decide +kernel
theorem dX5_pairsAt_5 : decode cX5_pairsAt 5 = .ok (.iload 4, 2) := by decide +kernel
theorem dX5_pairsAt_7 : decode cX5_pairsAt 7 = .ok (.bipush 100, 2) := by decide +kernel
theorem dX5_pairsAt_9 : decode cX5_pairsAt 9 = .ok (.if_icmp .ge 41, 3) := by decide +kernel
theorem dX5_pairsAt_12 : decode cX5_pairsAt 12 = .ok (.iload_n 3, 1) := by decide +kernel
theorem dX5_pairsAt_13 : decode cX5_pairsAt 13 = .ok (.aload_n 0, 1) := by decide +kernel
theorem dX5_pairsAt_14 : decode cX5_pairsAt 14 = .ok (.iload 4, 2) := by decide +kernel
theorem dX5_pairsAt_16 : decode cX5_pairsAt 16 = .ok (.invokevirtual 73, 3) := by decide +kernel
theorem dX5_pairsAt_19 : decode cX5_pairsAt 19 = .ok (.iload_n 1, 1) := by decide +kernel
theorem dX5_pairsAt_20 : decode cX5_pairsAt 20 = .ok (.if_icmp .ne 21, 3) := by decide +kernel
theorem dX5_pairsAt_23 : decode cX5_pairsAt 23 = .ok (.iload_n 2, 1) := by decide +kernel
theorem dX5_pairsAt_24 : decode cX5_pairsAt 24 = .ok (.ifCond .eq 13, 3) := by decide +kernel
theorem dX5_pairsAt_27 : decode cX5_pairsAt 27 = .ok (.aload_n 0, 1) := by decide +kernel
theorem dX5_pairsAt_28 : decode cX5_pairsAt 28 = .ok (.getfield 41, 3) := by decide +kernel
theorem dX5_pairsAt_31 : decode cX5_pairsAt 31 = .ok (.iload 4, 2) := by decide +kernel
theorem dX5_pairsAt_33 : decode cX5_pairsAt 33 = .ok (.iaload, 1) := by decide +kernel
theorem dX5_pairsAt_34 : decode cX5_pairsAt 34 = .ok (.ifCond .le 7, 3) := by decide +kernel
theorem dX5_pairsAt_37 : decode cX5_pairsAt 37 = .ok (.iconst 1, 1) := by decide +kernel
theorem dX5_pairsAt_38 : decode cX5_pairsAt 38 = .ok (.goto 4, 3) := by decide +kernel
theorem dX5_pairsAt_41 : decode cX5_pairsAt 41 = .ok (.iconst 0, 1) := by decide +kernel
theorem dX5_pairsAt_42 : decode cX5_pairsAt 42 = .ok (.iadd, 1) := by decide +kernel
theorem dX5_pairsAt_43 : decode cX5_pairsAt 43 = .ok (.istore_n 3, 1) := by decide +kernel
theorem dX5_pairsAt_44 : decode cX5_pairsAt 44 = .ok (.iinc 4 1, 3) := by decide +kernel
theorem dX5_pairsAt_47 : decode cX5_pairsAt 47 = .ok (.goto (-42), 3) := by decide +kernel
theorem dX5_pairsAt_50 : decode cX5_pairsAt 50 = .ok (.iload_n 3, 1) := by decide +kernel
theorem dX5_pairsAt_51 : decode cX5_pairsAt 51 = .ok (.ireturn, 1) := by decide +kernel
theorem dX5_shapesTold_0 : decode cX5_shapesTold 0 = .ok (.iload_n 2, 1) := by decide +kernel
theorem dX5_shapesTold_1 : decode cX5_shapesTold 1 = .ok (.ifCond .ne 15, 3) := by decide +kernel
theorem dX5_shapesTold_4 : decode cX5_shapesTold 4 = .ok (.aload_n 0, 1) := by decide +kernel
theorem dX5_shapesTold_5 : decode cX5_shapesTold 5 = .ok (.getfield 29, 3) := by decide +kernel
theorem dX5_shapesTold_8 : decode cX5_shapesTold 8 = .ok (.iload_n 1, 1) := by decide +kernel
theorem dX5_shapesTold_9 : decode cX5_shapesTold 9 = .ok (.iaload, 1) := by decide +kernel
theorem dX5_shapesTold_10 : decode cX5_shapesTold 10 = .ok (.bipush 100, 2) := by decide +kernel
theorem dX5_shapesTold_12 : decode cX5_shapesTold 12 = .ok (.iadd, 1) := by decide +kernel
theorem dX5_shapesTold_13 : decode cX5_shapesTold 13 = .ok (.goto 38, 3) := by decide +kernel
theorem dX5_shapesTold_16 : decode cX5_shapesTold 16 = .ok (.iload_n 2, 1) := by decide +kernel
theorem dX5_shapesTold_17 : decode cX5_shapesTold 17 = .ok (.iconst 1, 1) := by decide +kernel
theorem dX5_shapesTold_18 : decode cX5_shapesTold 18 = .ok (.if_icmp .ne 18, 3) := by decide +kernel
theorem dX5_shapesTold_21 : decode cX5_shapesTold 21 = .ok (.aload_n 0, 1) := by decide +kernel
theorem dX5_shapesTold_22 : decode cX5_shapesTold 22 = .ok (.getfield 7, 3) := by decide +kernel
theorem dX5_shapesTold_25 : decode cX5_shapesTold 25 = .ok (.bipush 38, 2) := by decide +kernel
theorem dX5_shapesTold_27 : decode cX5_shapesTold 27 = .ok (.iload_n 1, 1) := by decide +kernel
theorem dX5_shapesTold_28 : decode cX5_shapesTold 28 = .ok (.iadd, 1) := by decide +kernel
theorem dX5_shapesTold_29 : decode cX5_shapesTold 29 = .ok (.iaload, 1) := by decide +kernel
theorem dX5_shapesTold_30 : decode cX5_shapesTold 30 = .ok (.bipush 100, 2) := by decide +kernel
theorem dX5_shapesTold_32 : decode cX5_shapesTold 32 = .ok (.iadd, 1) := by decide +kernel
theorem dX5_shapesTold_33 : decode cX5_shapesTold 33 = .ok (.goto 18, 3) := by decide +kernel
theorem dX5_shapesTold_36 : decode cX5_shapesTold 36 = .ok (.aload_n 0, 1) := by decide +kernel
theorem dX5_shapesTold_37 : decode cX5_shapesTold 37 = .ok (.iload_n 1, 1) := by decide +kernel
theorem dX5_shapesTold_38 : decode cX5_shapesTold 38 = .ok (.iload_n 2, 1) := by decide +kernel
theorem dX5_shapesTold_39 : decode cX5_shapesTold 39 = .ok (.iconst 3, 1) := by decide +kernel
theorem dX5_shapesTold_40 : decode cX5_shapesTold 40 = .ok (.if_icmp .ne 7, 3) := by decide +kernel
theorem dX5_shapesTold_43 : decode cX5_shapesTold 43 = .ok (.iconst 1, 1) := by decide +kernel
theorem dX5_shapesTold_44 : decode cX5_shapesTold 44 = .ok (.goto 4, 3) := by decide +kernel
theorem dX5_shapesTold_47 : decode cX5_shapesTold 47 = .ok (.iconst 0, 1) := by decide +kernel
theorem dX5_shapesTold_48 : decode cX5_shapesTold 48 = .ok (.invokevirtual 170, 3) := by decide +kernel
theorem dX5_shapesTold_51 : decode cX5_shapesTold 51 = .ok (.ireturn, 1) := by decide +kernel
theorem dX5_shapesOf_0 : decode cX5_shapesOf 0 = .ok (.aload_n 0, 1) := by decide +kernel
theorem dX5_shapesOf_1 : decode cX5_shapesOf 1 = .ok (.iload_n 1, 1) := by decide +kernel
theorem dX5_shapesOf_2 : decode cX5_shapesOf 2 = .ok (.invokestatic 124, 3) := by decide +kernel
theorem dX5_shapesOf_5 : decode cX5_shapesOf 5 = .ok (.ifCond .eq 10, 3) := by decide +kernel
theorem dX5_shapesOf_8 : decode cX5_shapesOf 8 = .ok (.iload_n 2, 1) := by decide +kernel
theorem dX5_shapesOf_9 : decode cX5_shapesOf 9 = .ok (.invokestatic 124, 3) := by decide +kernel
theorem dX5_shapesOf_12 : decode cX5_shapesOf 12 = .ok (.ifCond .ne 7, 3) := by decide +kernel
theorem dX5_shapesOf_15 : decode cX5_shapesOf 15 = .ok (.iconst 1, 1) := by decide +kernel
theorem dX5_shapesOf_16 : decode cX5_shapesOf 16 = .ok (.goto 17, 3) := by decide +kernel
theorem dX5_shapesOf_19 : decode cX5_shapesOf 19 = .ok (.iload_n 3, 1) := by decide +kernel
theorem dX5_shapesOf_20 : decode cX5_shapesOf 20 = .ok (.iconst 0, 1) := by decide +kernel
theorem dX5_shapesOf_21 : decode cX5_shapesOf 21 = .ok (.iconst 3, 1) := by decide +kernel
theorem dX5_shapesOf_22 : decode cX5_shapesOf 22 = .ok (.invokestatic 58, 3) := by decide +kernel
theorem dX5_shapesOf_25 : decode cX5_shapesOf 25 = .ok (.ifCond .ne 7, 3) := by decide +kernel
theorem dX5_shapesOf_28 : decode cX5_shapesOf 28 = .ok (.iconst 2, 1) := by decide +kernel
theorem dX5_shapesOf_29 : decode cX5_shapesOf 29 = .ok (.goto 4, 3) := by decide +kernel
theorem dX5_shapesOf_32 : decode cX5_shapesOf 32 = .ok (.iconst 0, 1) := by decide +kernel
theorem dX5_shapesOf_33 : decode cX5_shapesOf 33 = .ok (.invokevirtual 118, 3) := by decide +kernel
theorem dX5_shapesOf_36 : decode cX5_shapesOf 36 = .ok (.ifCond .ne 5, 3) := by decide +kernel
theorem dX5_shapesOf_39 : decode cX5_shapesOf 39 = .ok (.iconst 0, 1) := by decide +kernel
theorem dX5_shapesOf_40 : decode cX5_shapesOf 40 = .ok (.ireturn, 1) := by decide +kernel
theorem dX5_shapesOf_41 : decode cX5_shapesOf 41 = .ok (.aload_n 0, 1) := by decide +kernel
theorem dX5_shapesOf_42 : decode cX5_shapesOf 42 = .ok (.invokevirtual 98, 3) := by decide +kernel
theorem dX5_shapesOf_45 : decode cX5_shapesOf 45 = .ok (.aload_n 0, 1) := by decide +kernel
theorem dX5_shapesOf_46 : decode cX5_shapesOf 46 = .ok (.iconst 4, 1) := by decide +kernel
theorem dX5_shapesOf_47 : decode cX5_shapesOf 47 = .ok (.iload_n 1, 1) := by decide +kernel
theorem dX5_shapesOf_48 : decode cX5_shapesOf 48 = .ok (.imul, 1) := by decide +kernel
theorem dX5_shapesOf_49 : decode cX5_shapesOf 49 = .ok (.iload_n 2, 1) := by decide +kernel
theorem dX5_shapesOf_50 : decode cX5_shapesOf 50 = .ok (.iadd, 1) := by decide +kernel
theorem dX5_shapesOf_51 : decode cX5_shapesOf 51 = .ok (.iload_n 3, 1) := by decide +kernel
theorem dX5_shapesOf_52 : decode cX5_shapesOf 52 = .ok (.invokevirtual 174, 3) := by decide +kernel
theorem dX5_shapesOf_55 : decode cX5_shapesOf 55 = .ok (.ireturn, 1) := by decide +kernel
theorem dX5_lessonTold_0 : decode cX5_lessonTold 0 = .ok (.iload_n 2, 1) := by decide +kernel
theorem dX5_lessonTold_1 : decode cX5_lessonTold 1 = .ok (.iconst 2, 1) := by decide +kernel
theorem dX5_lessonTold_2 : decode cX5_lessonTold 2 = .ok (.if_icmp .ge 10, 3) := by decide +kernel
theorem dX5_lessonTold_5 : decode cX5_lessonTold 5 = .ok (.aload_n 0, 1) := by decide +kernel
theorem dX5_lessonTold_6 : decode cX5_lessonTold 6 = .ok (.iload_n 1, 1) := by decide +kernel
theorem dX5_lessonTold_7 : decode cX5_lessonTold 7 = .ok (.iload_n 2, 1) := by decide +kernel
theorem dX5_lessonTold_8 : decode cX5_lessonTold 8 = .ok (.invokevirtual 80, 3) := by decide +kernel
theorem dX5_lessonTold_11 : decode cX5_lessonTold 11 = .ok (.ireturn, 1) := by decide +kernel
theorem dX5_lessonTold_12 : decode cX5_lessonTold 12 = .ok (.iload_n 2, 1) := by decide +kernel
theorem dX5_lessonTold_13 : decode cX5_lessonTold 13 = .ok (.iconst 2, 1) := by decide +kernel
theorem dX5_lessonTold_14 : decode cX5_lessonTold 14 = .ok (.if_icmp .ne 21, 3) := by decide +kernel
theorem dX5_lessonTold_17 : decode cX5_lessonTold 17 = .ok (.aload_n 0, 1) := by decide +kernel
theorem dX5_lessonTold_18 : decode cX5_lessonTold 18 = .ok (.iload_n 1, 1) := by decide +kernel
theorem dX5_lessonTold_19 : decode cX5_lessonTold 19 = .ok (.iconst 2, 1) := by decide +kernel
theorem dX5_lessonTold_20 : decode cX5_lessonTold 20 = .ok (.invokevirtual 80, 3) := by decide +kernel
theorem dX5_lessonTold_23 : decode cX5_lessonTold 23 = .ok (.iconst 1, 1) := by decide +kernel
theorem dX5_lessonTold_24 : decode cX5_lessonTold 24 = .ok (.if_icmp .ne 7, 3) := by decide +kernel
theorem dX5_lessonTold_27 : decode cX5_lessonTold 27 = .ok (.iconst 1, 1) := by decide +kernel
theorem dX5_lessonTold_28 : decode cX5_lessonTold 28 = .ok (.goto 21, 3) := by decide +kernel
theorem dX5_lessonTold_31 : decode cX5_lessonTold 31 = .ok (.iconst 0, 1) := by decide +kernel
theorem dX5_lessonTold_32 : decode cX5_lessonTold 32 = .ok (.goto 17, 3) := by decide +kernel
theorem dX5_lessonTold_35 : decode cX5_lessonTold 35 = .ok (.aload_n 0, 1) := by decide +kernel
theorem dX5_lessonTold_36 : decode cX5_lessonTold 36 = .ok (.getfield 44, 3) := by decide +kernel
theorem dX5_lessonTold_39 : decode cX5_lessonTold 39 = .ok (.iload_n 1, 1) := by decide +kernel
theorem dX5_lessonTold_40 : decode cX5_lessonTold 40 = .ok (.baload, 1) := by decide +kernel
theorem dX5_lessonTold_41 : decode cX5_lessonTold 41 = .ok (.ifCond .eq 7, 3) := by decide +kernel
theorem dX5_lessonTold_44 : decode cX5_lessonTold 44 = .ok (.iconst 1, 1) := by decide +kernel
theorem dX5_lessonTold_45 : decode cX5_lessonTold 45 = .ok (.goto 4, 3) := by decide +kernel
theorem dX5_lessonTold_48 : decode cX5_lessonTold 48 = .ok (.iconst 0, 1) := by decide +kernel
theorem dX5_lessonTold_49 : decode cX5_lessonTold 49 = .ok (.ireturn, 1) := by decide +kernel
theorem dX5_lessonOf_0 : decode cX5_lessonOf 0 = .ok (.aload_n 0, 1) := by decide +kernel
theorem dX5_lessonOf_1 : decode cX5_lessonOf 1 = .ok (.aload_n 0, 1) := by decide +kernel
theorem dX5_lessonOf_2 : decode cX5_lessonOf 2 = .ok (.iload_n 1, 1) := by decide +kernel
theorem dX5_lessonOf_3 : decode cX5_lessonOf 3 = .ok (.invokevirtual 136, 3) := by decide +kernel
theorem dX5_lessonOf_6 : decode cX5_lessonOf 6 = .ok (.ifCond .ne 7, 3) := by decide +kernel
theorem dX5_lessonOf_9 : decode cX5_lessonOf 9 = .ok (.iconst 1, 1) := by decide +kernel
theorem dX5_lessonOf_10 : decode cX5_lessonOf 10 = .ok (.goto 17, 3) := by decide +kernel
theorem dX5_lessonOf_13 : decode cX5_lessonOf 13 = .ok (.iload_n 2, 1) := by decide +kernel
theorem dX5_lessonOf_14 : decode cX5_lessonOf 14 = .ok (.iconst 0, 1) := by decide +kernel
theorem dX5_lessonOf_15 : decode cX5_lessonOf 15 = .ok (.iconst 3, 1) := by decide +kernel
theorem dX5_lessonOf_16 : decode cX5_lessonOf 16 = .ok (.invokestatic 58, 3) := by decide +kernel
theorem dX5_lessonOf_19 : decode cX5_lessonOf 19 = .ok (.ifCond .ne 7, 3) := by decide +kernel
theorem dX5_lessonOf_22 : decode cX5_lessonOf 22 = .ok (.iconst 2, 1) := by decide +kernel
theorem dX5_lessonOf_23 : decode cX5_lessonOf 23 = .ok (.goto 4, 3) := by decide +kernel
theorem dX5_lessonOf_26 : decode cX5_lessonOf 26 = .ok (.iconst 0, 1) := by decide +kernel
theorem dX5_lessonOf_27 : decode cX5_lessonOf 27 = .ok (.invokevirtual 118, 3) := by decide +kernel
theorem dX5_lessonOf_30 : decode cX5_lessonOf 30 = .ok (.ifCond .ne 5, 3) := by decide +kernel
theorem dX5_lessonOf_33 : decode cX5_lessonOf 33 = .ok (.iconst 0, 1) := by decide +kernel
theorem dX5_lessonOf_34 : decode cX5_lessonOf 34 = .ok (.ireturn, 1) := by decide +kernel
theorem dX5_lessonOf_35 : decode cX5_lessonOf 35 = .ok (.aload_n 0, 1) := by decide +kernel
theorem dX5_lessonOf_36 : decode cX5_lessonOf 36 = .ok (.invokevirtual 98, 3) := by decide +kernel
theorem dX5_lessonOf_39 : decode cX5_lessonOf 39 = .ok (.aload_n 0, 1) := by decide +kernel
theorem dX5_lessonOf_40 : decode cX5_lessonOf 40 = .ok (.iload_n 1, 1) := by decide +kernel
theorem dX5_lessonOf_41 : decode cX5_lessonOf 41 = .ok (.iload_n 2, 1) := by decide +kernel
theorem dX5_lessonOf_42 : decode cX5_lessonOf 42 = .ok (.invokevirtual 177, 3) := by decide +kernel
theorem dX5_lessonOf_45 : decode cX5_lessonOf 45 = .ok (.ireturn, 1) := by decide +kernel
theorem dX5_idleLessons_0 : decode cX5_idleLessons 0 = .ok (.iconst 0, 1) := by decide +kernel
theorem dX5_idleLessons_1 : decode cX5_idleLessons 1 = .ok (.istore_n 1, 1) := by decide +kernel
theorem dX5_idleLessons_2 : decode cX5_idleLessons 2 = .ok (.iconst 0, 1) := by decide +kernel
theorem dX5_idleLessons_3 : decode cX5_idleLessons 3 = .ok (.istore_n 2, 1) := by decide +kernel
theorem dX5_idleLessons_4 : decode cX5_idleLessons 4 = .ok (.iload_n 2, 1) := by decide +kernel
theorem dX5_idleLessons_5 : decode cX5_idleLessons 5 = .ok (.aload_n 0, 1) := by decide +kernel
theorem dX5_idleLessons_6 : decode cX5_idleLessons 6 = .ok (.getfield 7, 3) := by decide +kernel
theorem dX5_idleLessons_9 : decode cX5_idleLessons 9 = .ok (.iconst 0, 1) := by decide +kernel
theorem dX5_idleLessons_10 : decode cX5_idleLessons 10 = .ok (.iaload, 1) := by decide +kernel
theorem dX5_idleLessons_11 : decode cX5_idleLessons 11 = .ok (.if_icmp .ge 26, 3) := by decide +kernel
theorem dX5_idleLessons_14 : decode cX5_idleLessons 14 = .ok (.iload_n 1, 1) := by decide +kernel
theorem dX5_idleLessons_15 : decode cX5_idleLessons 15 = .ok (.aload_n 0, 1) := by decide +kernel
theorem dX5_idleLessons_16 : decode cX5_idleLessons 16 = .ok (.getfield 44, 3) := by decide +kernel
theorem dX5_idleLessons_19 : decode cX5_idleLessons 19 = .ok (.iload_n 2, 1) := by decide +kernel
theorem dX5_idleLessons_20 : decode cX5_idleLessons 20 = .ok (.baload, 1) := by decide +kernel
theorem dX5_idleLessons_21 : decode cX5_idleLessons 21 = .ok (.ifCond .eq 7, 3) := by decide +kernel
theorem dX5_idleLessons_24 : decode cX5_idleLessons 24 = .ok (.iconst 1, 1) := by decide +kernel
theorem dX5_idleLessons_25 : decode cX5_idleLessons 25 = .ok (.goto 4, 3) := by decide +kernel
theorem dX5_idleLessons_28 : decode cX5_idleLessons 28 = .ok (.iconst 0, 1) := by decide +kernel
theorem dX5_idleLessons_29 : decode cX5_idleLessons 29 = .ok (.iadd, 1) := by decide +kernel
theorem dX5_idleLessons_30 : decode cX5_idleLessons 30 = .ok (.istore_n 1, 1) := by decide +kernel
theorem dX5_idleLessons_31 : decode cX5_idleLessons 31 = .ok (.iinc 2 1, 3) := by decide +kernel
theorem dX5_idleLessons_34 : decode cX5_idleLessons 34 = .ok (.goto (-30), 3) := by decide +kernel
theorem dX5_idleLessons_37 : decode cX5_idleLessons 37 = .ok (.iload_n 1, 1) := by decide +kernel
theorem dX5_idleLessons_38 : decode cX5_idleLessons 38 = .ok (.ireturn, 1) := by decide +kernel
theorem dX5_learntPairs_0 : decode cX5_learntPairs 0 = .ok (.iconst 0, 1) := by decide +kernel
theorem dX5_learntPairs_1 : decode cX5_learntPairs 1 = .ok (.istore_n 1, 1) := by decide +kernel
theorem dX5_learntPairs_2 : decode cX5_learntPairs 2 = .ok (.iconst 0, 1) := by decide +kernel
theorem dX5_learntPairs_3 : decode cX5_learntPairs 3 = .ok (.istore_n 2, 1) := by decide +kernel
theorem dX5_learntPairs_4 : decode cX5_learntPairs 4 = .ok (.iload_n 2, 1) := by decide +kernel
theorem dX5_learntPairs_5 : decode cX5_learntPairs 5 = .ok (.bipush 100, 2) := by decide +kernel
theorem dX5_learntPairs_7 : decode cX5_learntPairs 7 = .ok (.if_icmp .ge 26, 3) := by decide +kernel
theorem dX5_learntPairs_10 : decode cX5_learntPairs 10 = .ok (.iload_n 1, 1) := by decide +kernel
theorem dX5_learntPairs_11 : decode cX5_learntPairs 11 = .ok (.aload_n 0, 1) := by decide +kernel
theorem dX5_learntPairs_12 : decode cX5_learntPairs 12 = .ok (.getfield 41, 3) := by decide +kernel
theorem dX5_learntPairs_15 : decode cX5_learntPairs 15 = .ok (.iload_n 2, 1) := by decide +kernel
theorem dX5_learntPairs_16 : decode cX5_learntPairs 16 = .ok (.iaload, 1) := by decide +kernel
theorem dX5_learntPairs_17 : decode cX5_learntPairs 17 = .ok (.ifCond .le 7, 3) := by decide +kernel
theorem dX5_learntPairs_20 : decode cX5_learntPairs 20 = .ok (.iconst 1, 1) := by decide +kernel
theorem dX5_learntPairs_21 : decode cX5_learntPairs 21 = .ok (.goto 4, 3) := by decide +kernel
theorem dX5_learntPairs_24 : decode cX5_learntPairs 24 = .ok (.iconst 0, 1) := by decide +kernel
theorem dX5_learntPairs_25 : decode cX5_learntPairs 25 = .ok (.iadd, 1) := by decide +kernel
theorem dX5_learntPairs_26 : decode cX5_learntPairs 26 = .ok (.istore_n 1, 1) := by decide +kernel
theorem dX5_learntPairs_27 : decode cX5_learntPairs 27 = .ok (.iinc 2 1, 3) := by decide +kernel
theorem dX5_learntPairs_30 : decode cX5_learntPairs 30 = .ok (.goto (-26), 3) := by decide +kernel
theorem dX5_learntPairs_33 : decode cX5_learntPairs 33 = .ok (.iload_n 1, 1) := by decide +kernel
theorem dX5_learntPairs_34 : decode cX5_learntPairs 34 = .ok (.ireturn, 1) := by decide +kernel
theorem dX5_otherShapes_0 : decode cX5_otherShapes 0 = .ok (.iconst 0, 1) := by decide +kernel
theorem dX5_otherShapes_1 : decode cX5_otherShapes 1 = .ok (.istore_n 1, 1) := by decide +kernel
theorem dX5_otherShapes_2 : decode cX5_otherShapes 2 = .ok (.iconst 0, 1) := by decide +kernel
theorem dX5_otherShapes_3 : decode cX5_otherShapes 3 = .ok (.istore_n 2, 1) := by decide +kernel
theorem dX5_otherShapes_4 : decode cX5_otherShapes 4 = .ok (.iload_n 2, 1) := by decide +kernel
theorem dX5_otherShapes_5 : decode cX5_otherShapes 5 = .ok (.bipush 16, 2) := by decide +kernel
theorem dX5_otherShapes_7 : decode cX5_otherShapes 7 = .ok (.if_icmp .ge 35, 3) := by decide +kernel
theorem dX5_otherShapes_10 : decode cX5_otherShapes 10 = .ok (.iload_n 1, 1) := by decide +kernel
theorem dX5_otherShapes_11 : decode cX5_otherShapes 11 = .ok (.aload_n 0, 1) := by decide +kernel
theorem dX5_otherShapes_12 : decode cX5_otherShapes 12 = .ok (.getfield 29, 3) := by decide +kernel
theorem dX5_otherShapes_15 : decode cX5_otherShapes 15 = .ok (.iload_n 2, 1) := by decide +kernel
theorem dX5_otherShapes_16 : decode cX5_otherShapes 16 = .ok (.iaload, 1) := by decide +kernel
theorem dX5_otherShapes_17 : decode cX5_otherShapes 17 = .ok (.aload_n 0, 1) := by decide +kernel
theorem dX5_otherShapes_18 : decode cX5_otherShapes 18 = .ok (.getfield 7, 3) := by decide +kernel
theorem dX5_otherShapes_21 : decode cX5_otherShapes 21 = .ok (.bipush 38, 2) := by decide +kernel
theorem dX5_otherShapes_23 : decode cX5_otherShapes 23 = .ok (.iload_n 2, 1) := by decide +kernel
theorem dX5_otherShapes_24 : decode cX5_otherShapes 24 = .ok (.iadd, 1) := by decide +kernel
theorem dX5_otherShapes_25 : decode cX5_otherShapes 25 = .ok (.iaload, 1) := by decide +kernel
theorem dX5_otherShapes_26 : decode cX5_otherShapes 26 = .ok (.if_icmp .eq 7, 3) := by decide +kernel
theorem dX5_otherShapes_29 : decode cX5_otherShapes 29 = .ok (.iconst 1, 1) := by decide +kernel
theorem dX5_otherShapes_30 : decode cX5_otherShapes 30 = .ok (.goto 4, 3) := by decide +kernel
theorem dX5_otherShapes_33 : decode cX5_otherShapes 33 = .ok (.iconst 0, 1) := by decide +kernel
theorem dX5_otherShapes_34 : decode cX5_otherShapes 34 = .ok (.iadd, 1) := by decide +kernel
theorem dX5_otherShapes_35 : decode cX5_otherShapes 35 = .ok (.istore_n 1, 1) := by decide +kernel
theorem dX5_otherShapes_36 : decode cX5_otherShapes 36 = .ok (.iinc 2 1, 3) := by decide +kernel
theorem dX5_otherShapes_39 : decode cX5_otherShapes 39 = .ok (.goto (-35), 3) := by decide +kernel
theorem dX5_otherShapes_42 : decode cX5_otherShapes 42 = .ok (.iload_n 1, 1) := by decide +kernel
theorem dX5_otherShapes_43 : decode cX5_otherShapes 43 = .ok (.ireturn, 1) := by decide +kernel
theorem dX5_countTold_0 : decode cX5_countTold 0 = .ok (.iload_n 1, 1) := by decide +kernel
theorem dX5_countTold_1 : decode cX5_countTold 1 = .ok (.tableswitch 88 0 6 #[43, 50, 55, 60, 65, 72, 80], 43) := by decide +kernel
theorem dX5_countTold_44 : decode cX5_countTold 44 = .ok (.aload_n 0, 1) := by decide +kernel
theorem dX5_countTold_45 : decode cX5_countTold 45 = .ok (.getfield 7, 3) := by decide +kernel
theorem dX5_countTold_48 : decode cX5_countTold 48 = .ok (.iconst 0, 1) := by decide +kernel
theorem dX5_countTold_49 : decode cX5_countTold 49 = .ok (.iaload, 1) := by decide +kernel
theorem dX5_countTold_50 : decode cX5_countTold 50 = .ok (.ireturn, 1) := by decide +kernel
theorem dX5_countTold_51 : decode cX5_countTold 51 = .ok (.aload_n 0, 1) := by decide +kernel
theorem dX5_countTold_52 : decode cX5_countTold 52 = .ok (.invokevirtual 180, 3) := by decide +kernel
theorem dX5_countTold_55 : decode cX5_countTold 55 = .ok (.ireturn, 1) := by decide +kernel
theorem dX5_countTold_56 : decode cX5_countTold 56 = .ok (.aload_n 0, 1) := by decide +kernel
theorem dX5_countTold_57 : decode cX5_countTold 57 = .ok (.invokevirtual 183, 3) := by decide +kernel
theorem dX5_countTold_60 : decode cX5_countTold 60 = .ok (.ireturn, 1) := by decide +kernel
theorem dX5_countTold_61 : decode cX5_countTold 61 = .ok (.aload_n 0, 1) := by decide +kernel
theorem dX5_countTold_62 : decode cX5_countTold 62 = .ok (.invokevirtual 186, 3) := by decide +kernel
theorem dX5_countTold_65 : decode cX5_countTold 65 = .ok (.ireturn, 1) := by decide +kernel
theorem dX5_countTold_66 : decode cX5_countTold 66 = .ok (.aload_n 0, 1) := by decide +kernel
theorem dX5_countTold_67 : decode cX5_countTold 67 = .ok (.getfield 7, 3) := by decide +kernel
theorem dX5_countTold_70 : decode cX5_countTold 70 = .ok (.iconst 5, 1) := by decide +kernel
theorem dX5_countTold_71 : decode cX5_countTold 71 = .ok (.iaload, 1) := by decide +kernel
theorem dX5_countTold_72 : decode cX5_countTold 72 = .ok (.ireturn, 1) := by decide +kernel
theorem dX5_countTold_73 : decode cX5_countTold 73 = .ok (.aload_n 0, 1) := by decide +kernel
theorem dX5_countTold_74 : decode cX5_countTold 74 = .ok (.getfield 7, 3) := by decide +kernel
theorem dX5_countTold_77 : decode cX5_countTold 77 = .ok (.bipush 6, 2) := by decide +kernel
theorem dX5_countTold_79 : decode cX5_countTold 79 = .ok (.iaload, 1) := by decide +kernel
theorem dX5_countTold_80 : decode cX5_countTold 80 = .ok (.ireturn, 1) := by decide +kernel
theorem dX5_countTold_81 : decode cX5_countTold 81 = .ok (.aload_n 0, 1) := by decide +kernel
theorem dX5_countTold_82 : decode cX5_countTold 82 = .ok (.getfield 7, 3) := by decide +kernel
theorem dX5_countTold_85 : decode cX5_countTold 85 = .ok (.bipush 7, 2) := by decide +kernel
theorem dX5_countTold_87 : decode cX5_countTold 87 = .ok (.iaload, 1) := by decide +kernel
theorem dX5_countTold_88 : decode cX5_countTold 88 = .ok (.ireturn, 1) := by decide +kernel
theorem dX5_countTold_89 : decode cX5_countTold 89 = .ok (.aload_n 0, 1) := by decide +kernel
theorem dX5_countTold_90 : decode cX5_countTold 90 = .ok (.getfield 66, 3) := by decide +kernel
theorem dX5_countTold_93 : decode cX5_countTold 93 = .ok (.ireturn, 1) := by decide +kernel
theorem dX5_count_0 : decode cX5_count 0 = .ok (.aload_n 0, 1) := by decide +kernel
theorem dX5_count_1 : decode cX5_count 1 = .ok (.iload_n 1, 1) := by decide +kernel
theorem dX5_count_2 : decode cX5_count 2 = .ok (.iconst 0, 1) := by decide +kernel
theorem dX5_count_3 : decode cX5_count 3 = .ok (.bipush 7, 2) := by decide +kernel
theorem dX5_count_5 : decode cX5_count 5 = .ok (.invokestatic 58, 3) := by decide +kernel
theorem dX5_count_8 : decode cX5_count 8 = .ok (.ifCond .eq 7, 3) := by decide +kernel
theorem dX5_count_11 : decode cX5_count 11 = .ok (.iconst 0, 1) := by decide +kernel
theorem dX5_count_12 : decode cX5_count 12 = .ok (.goto 4, 3) := by decide +kernel
theorem dX5_count_15 : decode cX5_count 15 = .ok (.iconst 1, 1) := by decide +kernel
theorem dX5_count_16 : decode cX5_count 16 = .ok (.invokevirtual 118, 3) := by decide +kernel
theorem dX5_count_19 : decode cX5_count 19 = .ok (.ifCond .ne 5, 3) := by decide +kernel
theorem dX5_count_22 : decode cX5_count 22 = .ok (.iconst 0, 1) := by decide +kernel
theorem dX5_count_23 : decode cX5_count 23 = .ok (.ireturn, 1) := by decide +kernel
theorem dX5_count_24 : decode cX5_count 24 = .ok (.aload_n 0, 1) := by decide +kernel
theorem dX5_count_25 : decode cX5_count 25 = .ok (.invokevirtual 98, 3) := by decide +kernel
theorem dX5_count_28 : decode cX5_count 28 = .ok (.aload_n 0, 1) := by decide +kernel
theorem dX5_count_29 : decode cX5_count 29 = .ok (.iload_n 1, 1) := by decide +kernel
theorem dX5_count_30 : decode cX5_count 30 = .ok (.invokevirtual 189, 3) := by decide +kernel
theorem dX5_count_33 : decode cX5_count 33 = .ok (.ireturn, 1) := by decide +kernel
theorem dX5_setting_0 : decode cX5_setting 0 = .ok (.aload_n 0, 1) := by decide +kernel
theorem dX5_setting_1 : decode cX5_setting 1 = .ok (.iload_n 1, 1) := by decide +kernel
theorem dX5_setting_2 : decode cX5_setting 2 = .ok (.iconst 0, 1) := by decide +kernel
theorem dX5_setting_3 : decode cX5_setting 3 = .ok (.iconst 3, 1) := by decide +kernel
theorem dX5_setting_4 : decode cX5_setting 4 = .ok (.invokestatic 58, 3) := by decide +kernel
theorem dX5_setting_7 : decode cX5_setting 7 = .ok (.ifCond .eq 7, 3) := by decide +kernel
theorem dX5_setting_10 : decode cX5_setting 10 = .ok (.iconst 0, 1) := by decide +kernel
theorem dX5_setting_11 : decode cX5_setting 11 = .ok (.goto 4, 3) := by decide +kernel
theorem dX5_setting_14 : decode cX5_setting 14 = .ok (.iconst 1, 1) := by decide +kernel
theorem dX5_setting_15 : decode cX5_setting 15 = .ok (.invokevirtual 118, 3) := by decide +kernel
theorem dX5_setting_18 : decode cX5_setting 18 = .ok (.ifCond .eq 14, 3) := by decide +kernel
theorem dX5_setting_21 : decode cX5_setting 21 = .ok (.aload_n 0, 1) := by decide +kernel
theorem dX5_setting_22 : decode cX5_setting 22 = .ok (.getfield 7, 3) := by decide +kernel
theorem dX5_setting_25 : decode cX5_setting 25 = .ok (.iconst 1, 1) := by decide +kernel
theorem dX5_setting_26 : decode cX5_setting 26 = .ok (.iload_n 1, 1) := by decide +kernel
theorem dX5_setting_27 : decode cX5_setting 27 = .ok (.iadd, 1) := by decide +kernel
theorem dX5_setting_28 : decode cX5_setting 28 = .ok (.iaload, 1) := by decide +kernel
theorem dX5_setting_29 : decode cX5_setting 29 = .ok (.goto 4, 3) := by decide +kernel
theorem dX5_setting_32 : decode cX5_setting 32 = .ok (.iconst 0, 1) := by decide +kernel
theorem dX5_setting_33 : decode cX5_setting 33 = .ok (.ireturn, 1) := by decide +kernel
theorem dX5_endOf_0 : decode cX5_endOf 0 = .ok (.iload_n 1, 1) := by decide +kernel
theorem dX5_endOf_1 : decode cX5_endOf 1 = .ok (.istore_n 2, 1) := by decide +kernel
theorem dX5_endOf_2 : decode cX5_endOf 2 = .ok (.aload_n 0, 1) := by decide +kernel
theorem dX5_endOf_3 : decode cX5_endOf 3 = .ok (.iload_n 2, 1) := by decide +kernel
theorem dX5_endOf_4 : decode cX5_endOf 4 = .ok (.invokevirtual 145, 3) := by decide +kernel
theorem dX5_endOf_7 : decode cX5_endOf 7 = .ok (.ifCond .eq 9, 3) := by decide +kernel
theorem dX5_endOf_10 : decode cX5_endOf 10 = .ok (.iinc 2 1, 3) := by decide +kernel
theorem dX5_endOf_13 : decode cX5_endOf 13 = .ok (.goto (-11), 3) := by decide +kernel
theorem dX5_endOf_16 : decode cX5_endOf 16 = .ok (.iload_n 2, 1) := by decide +kernel
theorem dX5_endOf_17 : decode cX5_endOf 17 = .ok (.ireturn, 1) := by decide +kernel
theorem dX5_widthOfWord_0 : decode cX5_widthOfWord 0 = .ok (.iconst 0, 1) := by decide +kernel
theorem dX5_widthOfWord_1 : decode cX5_widthOfWord 1 = .ok (.istore_n 2, 1) := by decide +kernel
theorem dX5_widthOfWord_2 : decode cX5_widthOfWord 2 = .ok (.iload_n 1, 1) := by decide +kernel
theorem dX5_widthOfWord_3 : decode cX5_widthOfWord 3 = .ok (.istore_n 3, 1) := by decide +kernel
theorem dX5_widthOfWord_4 : decode cX5_widthOfWord 4 = .ok (.aload_n 0, 1) := by decide +kernel
theorem dX5_widthOfWord_5 : decode cX5_widthOfWord 5 = .ok (.iload_n 3, 1) := by decide +kernel
theorem dX5_widthOfWord_6 : decode cX5_widthOfWord 6 = .ok (.invokevirtual 145, 3) := by decide +kernel
theorem dX5_widthOfWord_9 : decode cX5_widthOfWord 9 = .ok (.ifCond .eq 50, 3) := by decide +kernel
theorem dX5_widthOfWord_12 : decode cX5_widthOfWord 12 = .ok (.iload_n 2, 1) := by decide +kernel
theorem dX5_widthOfWord_13 : decode cX5_widthOfWord 13 = .ok (.aload_n 0, 1) := by decide +kernel
theorem dX5_widthOfWord_14 : decode cX5_widthOfWord 14 = .ok (.aload_n 0, 1) := by decide +kernel
theorem dX5_widthOfWord_15 : decode cX5_widthOfWord 15 = .ok (.getfield 26, 3) := by decide +kernel
theorem dX5_widthOfWord_18 : decode cX5_widthOfWord 18 = .ok (.iload_n 3, 1) := by decide +kernel
theorem dX5_widthOfWord_19 : decode cX5_widthOfWord 19 = .ok (.iaload, 1) := by decide +kernel
theorem dX5_widthOfWord_20 : decode cX5_widthOfWord 20 = .ok (.bipush 97, 2) := by decide +kernel
theorem dX5_widthOfWord_22 : decode cX5_widthOfWord 22 = .ok (.isub, 1) := by decide +kernel
theorem dX5_widthOfWord_23 : decode cX5_widthOfWord 23 = .ok (.iconst 0, 1) := by decide +kernel
theorem dX5_widthOfWord_24 : decode cX5_widthOfWord 24 = .ok (.invokevirtual 62, 3) := by decide +kernel
theorem dX5_widthOfWord_27 : decode cX5_widthOfWord 27 = .ok (.aload_n 0, 1) := by decide +kernel
theorem dX5_widthOfWord_28 : decode cX5_widthOfWord 28 = .ok (.iload_n 3, 1) := by decide +kernel
theorem dX5_widthOfWord_29 : decode cX5_widthOfWord 29 = .ok (.iconst 1, 1) := by decide +kernel
theorem dX5_widthOfWord_30 : decode cX5_widthOfWord 30 = .ok (.iadd, 1) := by decide +kernel
theorem dX5_widthOfWord_31 : decode cX5_widthOfWord 31 = .ok (.invokevirtual 145, 3) := by decide +kernel
theorem dX5_widthOfWord_34 : decode cX5_widthOfWord 34 = .ok (.ifCond .eq 15, 3) := by decide +kernel
theorem dX5_widthOfWord_37 : decode cX5_widthOfWord 37 = .ok (.aload_n 0, 1) := by decide +kernel
theorem dX5_widthOfWord_38 : decode cX5_widthOfWord 38 = .ok (.aload_n 0, 1) := by decide +kernel
theorem dX5_widthOfWord_39 : decode cX5_widthOfWord 39 = .ok (.iload_n 3, 1) := by decide +kernel
theorem dX5_widthOfWord_40 : decode cX5_widthOfWord 40 = .ok (.invokevirtual 155, 3) := by decide +kernel
theorem dX5_widthOfWord_43 : decode cX5_widthOfWord 43 = .ok (.invokevirtual 77, 3) := by decide +kernel
theorem dX5_widthOfWord_46 : decode cX5_widthOfWord 46 = .ok (.goto 4, 3) := by decide +kernel
theorem dX5_widthOfWord_49 : decode cX5_widthOfWord 49 = .ok (.iconst 0, 1) := by decide +kernel
theorem dX5_widthOfWord_50 : decode cX5_widthOfWord 50 = .ok (.iadd, 1) := by decide +kernel
theorem dX5_widthOfWord_51 : decode cX5_widthOfWord 51 = .ok (.iadd, 1) := by decide +kernel
theorem dX5_widthOfWord_52 : decode cX5_widthOfWord 52 = .ok (.istore_n 2, 1) := by decide +kernel
theorem dX5_widthOfWord_53 : decode cX5_widthOfWord 53 = .ok (.iinc 3 1, 3) := by decide +kernel
theorem dX5_widthOfWord_56 : decode cX5_widthOfWord 56 = .ok (.goto (-52), 3) := by decide +kernel
theorem dX5_widthOfWord_59 : decode cX5_widthOfWord 59 = .ok (.iload_n 2, 1) := by decide +kernel
theorem dX5_widthOfWord_60 : decode cX5_widthOfWord 60 = .ok (.ireturn, 1) := by decide +kernel
theorem dX5_widthOfText_0 : decode cX5_widthOfText 0 = .ok (.aload_n 0, 1) := by decide +kernel
theorem dX5_widthOfText_1 : decode cX5_widthOfText 1 = .ok (.getfield 7, 3) := by decide +kernel
theorem dX5_widthOfText_4 : decode cX5_widthOfText 4 = .ok (.iconst 3, 1) := by decide +kernel
theorem dX5_widthOfText_5 : decode cX5_widthOfText 5 = .ok (.iaload, 1) := by decide +kernel
theorem dX5_widthOfText_6 : decode cX5_widthOfText 6 = .ok (.ineg, 1) := by decide +kernel
theorem dX5_widthOfText_7 : decode cX5_widthOfText 7 = .ok (.istore_n 1, 1) := by decide +kernel
theorem dX5_widthOfText_8 : decode cX5_widthOfText 8 = .ok (.iconst 0, 1) := by decide +kernel
theorem dX5_widthOfText_9 : decode cX5_widthOfText 9 = .ok (.istore_n 2, 1) := by decide +kernel
theorem dX5_widthOfText_10 : decode cX5_widthOfText 10 = .ok (.iload_n 2, 1) := by decide +kernel
theorem dX5_widthOfText_11 : decode cX5_widthOfText 11 = .ok (.aload_n 0, 1) := by decide +kernel
theorem dX5_widthOfText_12 : decode cX5_widthOfText 12 = .ok (.getfield 142, 3) := by decide +kernel
theorem dX5_widthOfText_15 : decode cX5_widthOfText 15 = .ok (.if_icmp .ge 29, 3) := by decide +kernel
theorem dX5_widthOfText_18 : decode cX5_widthOfText 18 = .ok (.iload_n 1, 1) := by decide +kernel
theorem dX5_widthOfText_19 : decode cX5_widthOfText 19 = .ok (.aload_n 0, 1) := by decide +kernel
theorem dX5_widthOfText_20 : decode cX5_widthOfText 20 = .ok (.iload_n 2, 1) := by decide +kernel
theorem dX5_widthOfText_21 : decode cX5_widthOfText 21 = .ok (.invokevirtual 192, 3) := by decide +kernel
theorem dX5_widthOfText_24 : decode cX5_widthOfText 24 = .ok (.aload_n 0, 1) := by decide +kernel
theorem dX5_widthOfText_25 : decode cX5_widthOfText 25 = .ok (.getfield 7, 3) := by decide +kernel
theorem dX5_widthOfText_28 : decode cX5_widthOfText 28 = .ok (.iconst 3, 1) := by decide +kernel
theorem dX5_widthOfText_29 : decode cX5_widthOfText 29 = .ok (.iaload, 1) := by decide +kernel
theorem dX5_widthOfText_30 : decode cX5_widthOfText 30 = .ok (.iadd, 1) := by decide +kernel
theorem dX5_widthOfText_31 : decode cX5_widthOfText 31 = .ok (.iadd, 1) := by decide +kernel
theorem dX5_widthOfText_32 : decode cX5_widthOfText 32 = .ok (.istore_n 1, 1) := by decide +kernel
theorem dX5_widthOfText_33 : decode cX5_widthOfText 33 = .ok (.aload_n 0, 1) := by decide +kernel
theorem dX5_widthOfText_34 : decode cX5_widthOfText 34 = .ok (.iload_n 2, 1) := by decide +kernel
theorem dX5_widthOfText_35 : decode cX5_widthOfText 35 = .ok (.invokevirtual 195, 3) := by decide +kernel
theorem dX5_widthOfText_38 : decode cX5_widthOfText 38 = .ok (.iconst 1, 1) := by decide +kernel
theorem dX5_widthOfText_39 : decode cX5_widthOfText 39 = .ok (.iadd, 1) := by decide +kernel
theorem dX5_widthOfText_40 : decode cX5_widthOfText 40 = .ok (.istore_n 2, 1) := by decide +kernel
theorem dX5_widthOfText_41 : decode cX5_widthOfText 41 = .ok (.goto (-31), 3) := by decide +kernel
theorem dX5_widthOfText_44 : decode cX5_widthOfText 44 = .ok (.iload_n 1, 1) := by decide +kernel
theorem dX5_widthOfText_45 : decode cX5_widthOfText 45 = .ok (.ireturn, 1) := by decide +kernel
theorem dX5_words_0 : decode cX5_words 0 = .ok (.iconst 0, 1) := by decide +kernel
theorem dX5_words_1 : decode cX5_words 1 = .ok (.istore_n 1, 1) := by decide +kernel
theorem dX5_words_2 : decode cX5_words 2 = .ok (.iconst 0, 1) := by decide +kernel
theorem dX5_words_3 : decode cX5_words 3 = .ok (.istore_n 2, 1) := by decide +kernel
theorem dX5_words_4 : decode cX5_words 4 = .ok (.iload_n 2, 1) := by decide +kernel
theorem dX5_words_5 : decode cX5_words 5 = .ok (.aload_n 0, 1) := by decide +kernel
theorem dX5_words_6 : decode cX5_words 6 = .ok (.getfield 142, 3) := by decide +kernel
theorem dX5_words_9 : decode cX5_words 9 = .ok (.if_icmp .ge 17, 3) := by decide +kernel
theorem dX5_words_12 : decode cX5_words 12 = .ok (.iinc 1 1, 3) := by decide +kernel
theorem dX5_words_15 : decode cX5_words 15 = .ok (.aload_n 0, 1) := by decide +kernel
theorem dX5_words_16 : decode cX5_words 16 = .ok (.iload_n 2, 1) := by decide +kernel
theorem dX5_words_17 : decode cX5_words 17 = .ok (.invokevirtual 195, 3) := by decide +kernel
theorem dX5_words_20 : decode cX5_words 20 = .ok (.iconst 1, 1) := by decide +kernel
theorem dX5_words_21 : decode cX5_words 21 = .ok (.iadd, 1) := by decide +kernel
theorem dX5_words_22 : decode cX5_words 22 = .ok (.istore_n 2, 1) := by decide +kernel
theorem dX5_words_23 : decode cX5_words 23 = .ok (.goto (-19), 3) := by decide +kernel
theorem dX5_words_26 : decode cX5_words 26 = .ok (.iload_n 1, 1) := by decide +kernel
theorem dX5_words_27 : decode cX5_words 27 = .ok (.ireturn, 1) := by decide +kernel
theorem dX5_widestWord_0 : decode cX5_widestWord 0 = .ok (.iconst 0, 1) := by decide +kernel
theorem dX5_widestWord_1 : decode cX5_widestWord 1 = .ok (.istore_n 1, 1) := by decide +kernel
theorem dX5_widestWord_2 : decode cX5_widestWord 2 = .ok (.iconst 0, 1) := by decide +kernel
theorem dX5_widestWord_3 : decode cX5_widestWord 3 = .ok (.istore_n 2, 1) := by decide +kernel
theorem dX5_widestWord_4 : decode cX5_widestWord 4 = .ok (.iload_n 2, 1) := by decide +kernel
theorem dX5_widestWord_5 : decode cX5_widestWord 5 = .ok (.aload_n 0, 1) := by decide +kernel
theorem dX5_widestWord_6 : decode cX5_widestWord 6 = .ok (.getfield 142, 3) := by decide +kernel
theorem dX5_widestWord_9 : decode cX5_widestWord 9 = .ok (.if_icmp .ge 33, 3) := by decide +kernel
theorem dX5_widestWord_12 : decode cX5_widestWord 12 = .ok (.aload_n 0, 1) := by decide +kernel
theorem dX5_widestWord_13 : decode cX5_widestWord 13 = .ok (.iload_n 2, 1) := by decide +kernel
theorem dX5_widestWord_14 : decode cX5_widestWord 14 = .ok (.invokevirtual 192, 3) := by decide +kernel
theorem dX5_widestWord_17 : decode cX5_widestWord 17 = .ok (.iload_n 1, 1) := by decide +kernel
theorem dX5_widestWord_18 : decode cX5_widestWord 18 = .ok (.if_icmp .le 11, 3) := by decide +kernel
theorem dX5_widestWord_21 : decode cX5_widestWord 21 = .ok (.aload_n 0, 1) := by decide +kernel
theorem dX5_widestWord_22 : decode cX5_widestWord 22 = .ok (.iload_n 2, 1) := by decide +kernel
theorem dX5_widestWord_23 : decode cX5_widestWord 23 = .ok (.invokevirtual 192, 3) := by decide +kernel
theorem dX5_widestWord_26 : decode cX5_widestWord 26 = .ok (.goto 4, 3) := by decide +kernel
theorem dX5_widestWord_29 : decode cX5_widestWord 29 = .ok (.iload_n 1, 1) := by decide +kernel
theorem dX5_widestWord_30 : decode cX5_widestWord 30 = .ok (.istore_n 1, 1) := by decide +kernel
theorem dX5_widestWord_31 : decode cX5_widestWord 31 = .ok (.aload_n 0, 1) := by decide +kernel
theorem dX5_widestWord_32 : decode cX5_widestWord 32 = .ok (.iload_n 2, 1) := by decide +kernel
theorem dX5_widestWord_33 : decode cX5_widestWord 33 = .ok (.invokevirtual 195, 3) := by decide +kernel
theorem dX5_widestWord_36 : decode cX5_widestWord 36 = .ok (.iconst 1, 1) := by decide +kernel
theorem dX5_widestWord_37 : decode cX5_widestWord 37 = .ok (.iadd, 1) := by decide +kernel
theorem dX5_widestWord_38 : decode cX5_widestWord 38 = .ok (.istore_n 2, 1) := by decide +kernel
theorem dX5_widestWord_39 : decode cX5_widestWord 39 = .ok (.goto (-35), 3) := by decide +kernel
theorem dX5_widestWord_42 : decode cX5_widestWord 42 = .ok (.iload_n 1, 1) := by decide +kernel
theorem dX5_widestWord_43 : decode cX5_widestWord 43 = .ok (.ireturn, 1) := by decide +kernel
theorem dX5_fewestLines_0 : decode cX5_fewestLines 0 = .ok (.iconst 0, 1) := by decide +kernel
theorem dX5_fewestLines_1 : decode cX5_fewestLines 1 = .ok (.istore_n 1, 1) := by decide +kernel
theorem dX5_fewestLines_2 : decode cX5_fewestLines 2 = .ok (.iconst 0, 1) := by decide +kernel
theorem dX5_fewestLines_3 : decode cX5_fewestLines 3 = .ok (.istore_n 2, 1) := by decide +kernel
theorem dX5_fewestLines_4 : decode cX5_fewestLines 4 = .ok (.iconst 0, 1) := by decide +kernel
theorem dX5_fewestLines_5 : decode cX5_fewestLines 5 = .ok (.istore_n 3, 1) := by decide +kernel
theorem dX5_fewestLines_6 : decode cX5_fewestLines 6 = .ok (.iload_n 3, 1) := by decide +kernel
theorem dX5_fewestLines_7 : decode cX5_fewestLines 7 = .ok (.aload_n 0, 1) := by decide +kernel
theorem dX5_fewestLines_8 : decode cX5_fewestLines 8 = .ok (.getfield 142, 3) := by decide +kernel
theorem dX5_fewestLines_11 : decode cX5_fewestLines 11 = .ok (.if_icmp .ge 81, 3) := by decide +kernel
theorem dX5_fewestLines_14 : decode cX5_fewestLines 14 = .ok (.iload_n 2, 1) := by decide +kernel
theorem dX5_fewestLines_15 : decode cX5_fewestLines 15 = .ok (.aload_n 0, 1) := by decide +kernel
theorem dX5_fewestLines_16 : decode cX5_fewestLines 16 = .ok (.getfield 7, 3) := by decide +kernel
theorem dX5_fewestLines_19 : decode cX5_fewestLines 19 = .ok (.iconst 3, 1) := by decide +kernel
theorem dX5_fewestLines_20 : decode cX5_fewestLines 20 = .ok (.iaload, 1) := by decide +kernel
theorem dX5_fewestLines_21 : decode cX5_fewestLines 21 = .ok (.iadd, 1) := by decide +kernel
theorem dX5_fewestLines_22 : decode cX5_fewestLines 22 = .ok (.aload_n 0, 1) := by decide +kernel
theorem dX5_fewestLines_23 : decode cX5_fewestLines 23 = .ok (.iload_n 3, 1) := by decide +kernel
theorem dX5_fewestLines_24 : decode cX5_fewestLines 24 = .ok (.invokevirtual 192, 3) := by decide +kernel
theorem dX5_fewestLines_27 : decode cX5_fewestLines 27 = .ok (.iadd, 1) := by decide +kernel
theorem dX5_fewestLines_28 : decode cX5_fewestLines 28 = .ok (.istore 4, 2) := by decide +kernel
theorem dX5_fewestLines_30 : decode cX5_fewestLines 30 = .ok (.iload_n 1, 1) := by decide +kernel
theorem dX5_fewestLines_31 : decode cX5_fewestLines 31 = .ok (.ifCond .eq 14, 3) := by decide +kernel
theorem dX5_fewestLines_34 : decode cX5_fewestLines 34 = .ok (.iload 4, 2) := by decide +kernel
theorem dX5_fewestLines_36 : decode cX5_fewestLines 36 = .ok (.aload_n 0, 1) := by decide +kernel
theorem dX5_fewestLines_37 : decode cX5_fewestLines 37 = .ok (.getfield 7, 3) := by decide +kernel
theorem dX5_fewestLines_40 : decode cX5_fewestLines 40 = .ok (.iconst 4, 1) := by decide +kernel
theorem dX5_fewestLines_41 : decode cX5_fewestLines 41 = .ok (.iaload, 1) := by decide +kernel
theorem dX5_fewestLines_42 : decode cX5_fewestLines 42 = .ok (.if_icmp .le 7, 3) := by decide +kernel
theorem dX5_fewestLines_45 : decode cX5_fewestLines 45 = .ok (.iconst 1, 1) := by decide +kernel
theorem dX5_fewestLines_46 : decode cX5_fewestLines 46 = .ok (.goto 4, 3) := by decide +kernel
theorem dX5_fewestLines_49 : decode cX5_fewestLines 49 = .ok (.iconst 0, 1) := by decide +kernel
theorem dX5_fewestLines_50 : decode cX5_fewestLines 50 = .ok (.istore 5, 2) := by decide +kernel
theorem dX5_fewestLines_52 : decode cX5_fewestLines 52 = .ok (.iload_n 1, 1) := by decide +kernel
theorem dX5_fewestLines_53 : decode cX5_fewestLines 53 = .ok (.iload 5, 2) := by decide +kernel
theorem dX5_fewestLines_55 : decode cX5_fewestLines 55 = .ok (.ifCond .eq 7, 3) := by decide +kernel
theorem dX5_fewestLines_58 : decode cX5_fewestLines 58 = .ok (.iconst 1, 1) := by decide +kernel
theorem dX5_fewestLines_59 : decode cX5_fewestLines 59 = .ok (.goto 4, 3) := by decide +kernel
theorem dX5_fewestLines_62 : decode cX5_fewestLines 62 = .ok (.iconst 0, 1) := by decide +kernel
theorem dX5_fewestLines_63 : decode cX5_fewestLines 63 = .ok (.iadd, 1) := by decide +kernel
theorem dX5_fewestLines_64 : decode cX5_fewestLines 64 = .ok (.istore_n 1, 1) := by decide +kernel
theorem dX5_fewestLines_65 : decode cX5_fewestLines 65 = .ok (.iload 5, 2) := by decide +kernel
theorem dX5_fewestLines_67 : decode cX5_fewestLines 67 = .ok (.ifCond .eq 11, 3) := by decide +kernel
theorem dX5_fewestLines_70 : decode cX5_fewestLines 70 = .ok (.aload_n 0, 1) := by decide +kernel
theorem dX5_fewestLines_71 : decode cX5_fewestLines 71 = .ok (.iload_n 3, 1) := by decide +kernel
theorem dX5_fewestLines_72 : decode cX5_fewestLines 72 = .ok (.invokevirtual 192, 3) := by decide +kernel
theorem dX5_fewestLines_75 : decode cX5_fewestLines 75 = .ok (.goto 5, 3) := by decide +kernel
theorem dX5_fewestLines_78 : decode cX5_fewestLines 78 = .ok (.iload 4, 2) := by decide +kernel
theorem dX5_fewestLines_80 : decode cX5_fewestLines 80 = .ok (.istore_n 2, 1) := by decide +kernel
theorem dX5_fewestLines_81 : decode cX5_fewestLines 81 = .ok (.aload_n 0, 1) := by decide +kernel
theorem dX5_fewestLines_82 : decode cX5_fewestLines 82 = .ok (.iload_n 3, 1) := by decide +kernel
theorem dX5_fewestLines_83 : decode cX5_fewestLines 83 = .ok (.invokevirtual 195, 3) := by decide +kernel
theorem dX5_fewestLines_86 : decode cX5_fewestLines 86 = .ok (.iconst 1, 1) := by decide +kernel
theorem dX5_fewestLines_87 : decode cX5_fewestLines 87 = .ok (.iadd, 1) := by decide +kernel
theorem dX5_fewestLines_88 : decode cX5_fewestLines 88 = .ok (.istore_n 3, 1) := by decide +kernel
theorem dX5_fewestLines_89 : decode cX5_fewestLines 89 = .ok (.goto (-83), 3) := by decide +kernel
theorem dX5_fewestLines_92 : decode cX5_fewestLines 92 = .ok (.iload_n 1, 1) := by decide +kernel
theorem dX5_fewestLines_93 : decode cX5_fewestLines 93 = .ok (.ireturn, 1) := by decide +kernel
theorem dX5_textTold_0 : decode cX5_textTold 0 = .ok (.aload_n 0, 1) := by decide +kernel
theorem dX5_textTold_1 : decode cX5_textTold 1 = .ok (.invokevirtual 151, 3) := by decide +kernel
theorem dX5_textTold_4 : decode cX5_textTold 4 = .ok (.ifCond .ne 5, 3) := by decide +kernel
theorem dX5_textTold_7 : decode cX5_textTold 7 = .ok (.iconst (-1), 1) := by decide +kernel
theorem dX5_textTold_8 : decode cX5_textTold 8 = .ok (.ireturn, 1) := by decide +kernel
theorem dX5_textTold_9 : decode cX5_textTold 9 = .ok (.iload_n 1, 1) := by decide +kernel
theorem dX5_textTold_10 : decode cX5_textTold 10 = .ok (.tableswitch 45 0 3 #[30, 30, 35, 40], 30) := by decide +kernel
theorem dX5_textTold_40 : decode cX5_textTold 40 = .ok (.aload_n 0, 1) := by decide +kernel
theorem dX5_textTold_41 : decode cX5_textTold 41 = .ok (.invokevirtual 198, 3) := by decide +kernel
theorem dX5_textTold_44 : decode cX5_textTold 44 = .ok (.ireturn, 1) := by decide +kernel
theorem dX5_textTold_45 : decode cX5_textTold 45 = .ok (.aload_n 0, 1) := by decide +kernel
theorem dX5_textTold_46 : decode cX5_textTold 46 = .ok (.invokevirtual 201, 3) := by decide +kernel
theorem dX5_textTold_49 : decode cX5_textTold 49 = .ok (.ireturn, 1) := by decide +kernel
theorem dX5_textTold_50 : decode cX5_textTold 50 = .ok (.aload_n 0, 1) := by decide +kernel
theorem dX5_textTold_51 : decode cX5_textTold 51 = .ok (.invokevirtual 204, 3) := by decide +kernel
theorem dX5_textTold_54 : decode cX5_textTold 54 = .ok (.ireturn, 1) := by decide +kernel
theorem dX5_textTold_55 : decode cX5_textTold 55 = .ok (.aload_n 0, 1) := by decide +kernel
theorem dX5_textTold_56 : decode cX5_textTold 56 = .ok (.invokevirtual 207, 3) := by decide +kernel
theorem dX5_textTold_59 : decode cX5_textTold 59 = .ok (.ireturn, 1) := by decide +kernel
theorem dX5_text_0 : decode cX5_text 0 = .ok (.aload_n 0, 1) := by decide +kernel
theorem dX5_text_1 : decode cX5_text 1 = .ok (.iload_n 1, 1) := by decide +kernel
theorem dX5_text_2 : decode cX5_text 2 = .ok (.iconst 0, 1) := by decide +kernel
theorem dX5_text_3 : decode cX5_text 3 = .ok (.iconst 5, 1) := by decide +kernel
theorem dX5_text_4 : decode cX5_text 4 = .ok (.invokestatic 58, 3) := by decide +kernel
theorem dX5_text_7 : decode cX5_text 7 = .ok (.ifCond .eq 7, 3) := by decide +kernel
theorem dX5_text_10 : decode cX5_text 10 = .ok (.iconst 0, 1) := by decide +kernel
theorem dX5_text_11 : decode cX5_text 11 = .ok (.goto 4, 3) := by decide +kernel
theorem dX5_text_14 : decode cX5_text 14 = .ok (.iconst 1, 1) := by decide +kernel
theorem dX5_text_15 : decode cX5_text 15 = .ok (.invokevirtual 118, 3) := by decide +kernel
theorem dX5_text_18 : decode cX5_text 18 = .ok (.ifCond .ne 5, 3) := by decide +kernel
theorem dX5_text_21 : decode cX5_text 21 = .ok (.iconst 0, 1) := by decide +kernel
theorem dX5_text_22 : decode cX5_text 22 = .ok (.ireturn, 1) := by decide +kernel
theorem dX5_text_23 : decode cX5_text 23 = .ok (.aload_n 0, 1) := by decide +kernel
theorem dX5_text_24 : decode cX5_text 24 = .ok (.invokevirtual 98, 3) := by decide +kernel
theorem dX5_text_27 : decode cX5_text 27 = .ok (.aload_n 0, 1) := by decide +kernel
theorem dX5_text_28 : decode cX5_text 28 = .ok (.iload_n 1, 1) := by decide +kernel
theorem dX5_text_29 : decode cX5_text 29 = .ok (.invokevirtual 210, 3) := by decide +kernel
theorem dX5_text_32 : decode cX5_text 32 = .ok (.ireturn, 1) := by decide +kernel
theorem dX5_ifCircled_0 : decode cX5_ifCircled 0 = .ok (.aload_n 0, 1) := by decide +kernel
theorem dX5_ifCircled_1 : decode cX5_ifCircled 1 = .ok (.iload_n 1, 1) := by decide +kernel
theorem dX5_ifCircled_2 : decode cX5_ifCircled 2 = .ok (.invokestatic 114, 3) := by decide +kernel
theorem dX5_ifCircled_5 : decode cX5_ifCircled 5 = .ok (.ifCond .eq 10, 3) := by decide +kernel
theorem dX5_ifCircled_8 : decode cX5_ifCircled 8 = .ok (.iload_n 2, 1) := by decide +kernel
theorem dX5_ifCircled_9 : decode cX5_ifCircled 9 = .ok (.invokestatic 114, 3) := by decide +kernel
theorem dX5_ifCircled_12 : decode cX5_ifCircled 12 = .ok (.ifCond .ne 7, 3) := by decide +kernel
theorem dX5_ifCircled_15 : decode cX5_ifCircled 15 = .ok (.iconst 1, 1) := by decide +kernel
theorem dX5_ifCircled_16 : decode cX5_ifCircled 16 = .ok (.goto 15, 3) := by decide +kernel
theorem dX5_ifCircled_19 : decode cX5_ifCircled 19 = .ok (.iload_n 3, 1) := by decide +kernel
theorem dX5_ifCircled_20 : decode cX5_ifCircled 20 = .ok (.invokestatic 130, 3) := by decide +kernel
theorem dX5_ifCircled_23 : decode cX5_ifCircled 23 = .ok (.ifCond .ne 7, 3) := by decide +kernel
theorem dX5_ifCircled_26 : decode cX5_ifCircled 26 = .ok (.iconst 2, 1) := by decide +kernel
theorem dX5_ifCircled_27 : decode cX5_ifCircled 27 = .ok (.goto 4, 3) := by decide +kernel
theorem dX5_ifCircled_30 : decode cX5_ifCircled 30 = .ok (.iconst 0, 1) := by decide +kernel
theorem dX5_ifCircled_31 : decode cX5_ifCircled 31 = .ok (.invokevirtual 118, 3) := by decide +kernel
theorem dX5_ifCircled_34 : decode cX5_ifCircled 34 = .ok (.ifCond .ne 5, 3) := by decide +kernel
theorem dX5_ifCircled_37 : decode cX5_ifCircled 37 = .ok (.iconst 0, 1) := by decide +kernel
theorem dX5_ifCircled_38 : decode cX5_ifCircled 38 = .ok (.ireturn, 1) := by decide +kernel
theorem dX5_ifCircled_39 : decode cX5_ifCircled 39 = .ok (.aload_n 0, 1) := by decide +kernel
theorem dX5_ifCircled_40 : decode cX5_ifCircled 40 = .ok (.getfield 7, 3) := by decide +kernel
theorem dX5_ifCircled_43 : decode cX5_ifCircled 43 = .ok (.iconst 0, 1) := by decide +kernel
theorem dX5_ifCircled_44 : decode cX5_ifCircled 44 = .ok (.aload_n 0, 1) := by decide +kernel
theorem dX5_ifCircled_45 : decode cX5_ifCircled 45 = .ok (.getfield 23, 3) := by decide +kernel
theorem dX5_ifCircled_48 : decode cX5_ifCircled 48 = .ok (.iconst 0, 1) := by decide +kernel
theorem dX5_ifCircled_49 : decode cX5_ifCircled 49 = .ok (.invokestatic 69, 3) := by decide +kernel
theorem dX5_ifCircled_52 : decode cX5_ifCircled 52 = .ok (.aload_n 0, 1) := by decide +kernel
theorem dX5_ifCircled_53 : decode cX5_ifCircled 53 = .ok (.bipush 10, 2) := by decide +kernel
theorem dX5_ifCircled_55 : decode cX5_ifCircled 55 = .ok (.iload_n 1, 1) := by decide +kernel
theorem dX5_ifCircled_56 : decode cX5_ifCircled 56 = .ok (.imul, 1) := by decide +kernel
theorem dX5_ifCircled_57 : decode cX5_ifCircled 57 = .ok (.iload_n 2, 1) := by decide +kernel
theorem dX5_ifCircled_58 : decode cX5_ifCircled 58 = .ok (.iadd, 1) := by decide +kernel
theorem dX5_ifCircled_59 : decode cX5_ifCircled 59 = .ok (.iload_n 3, 1) := by decide +kernel
theorem dX5_ifCircled_60 : decode cX5_ifCircled 60 = .ok (.invokevirtual 133, 3) := by decide +kernel
theorem dX5_ifCircled_63 : decode cX5_ifCircled 63 = .ok (.istore 4, 2) := by decide +kernel
theorem dX5_ifCircled_65 : decode cX5_ifCircled 65 = .ok (.aload_n 0, 1) := by decide +kernel
theorem dX5_ifCircled_66 : decode cX5_ifCircled 66 = .ok (.getfield 23, 3) := by decide +kernel
theorem dX5_ifCircled_69 : decode cX5_ifCircled 69 = .ok (.iconst 0, 1) := by decide +kernel
theorem dX5_ifCircled_70 : decode cX5_ifCircled 70 = .ok (.aload_n 0, 1) := by decide +kernel
theorem dX5_ifCircled_71 : decode cX5_ifCircled 71 = .ok (.getfield 7, 3) := by decide +kernel
theorem dX5_ifCircled_74 : decode cX5_ifCircled 74 = .ok (.iconst 0, 1) := by decide +kernel
theorem dX5_ifCircled_75 : decode cX5_ifCircled 75 = .ok (.invokestatic 69, 3) := by decide +kernel
theorem dX5_ifCircled_78 : decode cX5_ifCircled 78 = .ok (.iload 4, 2) := by decide +kernel
theorem dX5_ifCircled_80 : decode cX5_ifCircled 80 = .ok (.ireturn, 1) := by decide +kernel
theorem dX5_without_0 : decode cX5_without 0 = .ok (.aload_n 0, 1) := by decide +kernel
theorem dX5_without_1 : decode cX5_without 1 = .ok (.getfield 7, 3) := by decide +kernel
theorem dX5_without_4 : decode cX5_without 4 = .ok (.iconst 0, 1) := by decide +kernel
theorem dX5_without_5 : decode cX5_without 5 = .ok (.aload_n 0, 1) := by decide +kernel
theorem dX5_without_6 : decode cX5_without 6 = .ok (.getfield 23, 3) := by decide +kernel
theorem dX5_without_9 : decode cX5_without 9 = .ok (.iconst 0, 1) := by decide +kernel
theorem dX5_without_10 : decode cX5_without 10 = .ok (.invokestatic 69, 3) := by decide +kernel
theorem dX5_without_13 : decode cX5_without 13 = .ok (.aload_n 0, 1) := by decide +kernel
theorem dX5_without_14 : decode cX5_without 14 = .ok (.iload_n 1, 1) := by decide +kernel
theorem dX5_without_15 : decode cX5_without 15 = .ok (.invokevirtual 139, 3) := by decide +kernel
theorem dX5_without_18 : decode cX5_without 18 = .ok (.istore_n 2, 1) := by decide +kernel
theorem dX5_without_19 : decode cX5_without 19 = .ok (.aload_n 0, 1) := by decide +kernel
theorem dX5_without_20 : decode cX5_without 20 = .ok (.getfield 23, 3) := by decide +kernel
theorem dX5_without_23 : decode cX5_without 23 = .ok (.iconst 0, 1) := by decide +kernel
theorem dX5_without_24 : decode cX5_without 24 = .ok (.aload_n 0, 1) := by decide +kernel
theorem dX5_without_25 : decode cX5_without 25 = .ok (.getfield 7, 3) := by decide +kernel
theorem dX5_without_28 : decode cX5_without 28 = .ok (.iconst 0, 1) := by decide +kernel
theorem dX5_without_29 : decode cX5_without 29 = .ok (.invokestatic 69, 3) := by decide +kernel
theorem dX5_without_32 : decode cX5_without 32 = .ok (.iload_n 2, 1) := by decide +kernel
theorem dX5_without_33 : decode cX5_without 33 = .ok (.ireturn, 1) := by decide +kernel
theorem dX5_ifForgotten_0 : decode cX5_ifForgotten 0 = .ok (.aload_n 0, 1) := by decide +kernel
theorem dX5_ifForgotten_1 : decode cX5_ifForgotten 1 = .ok (.aload_n 0, 1) := by decide +kernel
theorem dX5_ifForgotten_2 : decode cX5_ifForgotten 2 = .ok (.iload_n 1, 1) := by decide +kernel
theorem dX5_ifForgotten_3 : decode cX5_ifForgotten 3 = .ok (.invokevirtual 136, 3) := by decide +kernel
theorem dX5_ifForgotten_6 : decode cX5_ifForgotten 6 = .ok (.ifCond .eq 7, 3) := by decide +kernel
theorem dX5_ifForgotten_9 : decode cX5_ifForgotten 9 = .ok (.iconst 0, 1) := by decide +kernel
theorem dX5_ifForgotten_10 : decode cX5_ifForgotten 10 = .ok (.goto 4, 3) := by decide +kernel
theorem dX5_ifForgotten_13 : decode cX5_ifForgotten 13 = .ok (.iconst 1, 1) := by decide +kernel
theorem dX5_ifForgotten_14 : decode cX5_ifForgotten 14 = .ok (.invokevirtual 118, 3) := by decide +kernel
theorem dX5_ifForgotten_17 : decode cX5_ifForgotten 17 = .ok (.ifCond .eq 11, 3) := by decide +kernel
theorem dX5_ifForgotten_20 : decode cX5_ifForgotten 20 = .ok (.aload_n 0, 1) := by decide +kernel
theorem dX5_ifForgotten_21 : decode cX5_ifForgotten 21 = .ok (.iload_n 1, 1) := by decide +kernel
theorem dX5_ifForgotten_22 : decode cX5_ifForgotten 22 = .ok (.invokevirtual 213, 3) := by decide +kernel
theorem dX5_ifForgotten_25 : decode cX5_ifForgotten 25 = .ok (.goto 4, 3) := by decide +kernel
theorem dX5_ifForgotten_28 : decode cX5_ifForgotten 28 = .ok (.iconst 0, 1) := by decide +kernel
theorem dX5_ifForgotten_29 : decode cX5_ifForgotten 29 = .ok (.ireturn, 1) := by decide +kernel
theorem dX5_mainTold_0 : decode cX5_mainTold 0 = .ok (.iconst (-1), 1) := by decide +kernel
theorem dX5_mainTold_1 : decode cX5_mainTold 1 = .ok (.istore_n 1, 1) := by decide +kernel
theorem dX5_mainTold_2 : decode cX5_mainTold 2 = .ok (.iconst (-1), 1) := by decide +kernel
theorem dX5_mainTold_3 : decode cX5_mainTold 3 = .ok (.istore_n 2, 1) := by decide +kernel
theorem dX5_mainTold_4 : decode cX5_mainTold 4 = .ok (.iconst 0, 1) := by decide +kernel
theorem dX5_mainTold_5 : decode cX5_mainTold 5 = .ok (.istore_n 3, 1) := by decide +kernel
theorem dX5_mainTold_6 : decode cX5_mainTold 6 = .ok (.iload_n 3, 1) := by decide +kernel
theorem dX5_mainTold_7 : decode cX5_mainTold 7 = .ok (.aload_n 0, 1) := by decide +kernel
theorem dX5_mainTold_8 : decode cX5_mainTold 8 = .ok (.getfield 7, 3) := by decide +kernel
theorem dX5_mainTold_11 : decode cX5_mainTold 11 = .ok (.iconst 0, 1) := by decide +kernel
theorem dX5_mainTold_12 : decode cX5_mainTold 12 = .ok (.iaload, 1) := by decide +kernel
theorem dX5_mainTold_13 : decode cX5_mainTold 13 = .ok (.if_icmp .ge 41, 3) := by decide +kernel
theorem dX5_mainTold_16 : decode cX5_mainTold 16 = .ok (.aload_n 0, 1) := by decide +kernel
theorem dX5_mainTold_17 : decode cX5_mainTold 17 = .ok (.iload_n 3, 1) := by decide +kernel
theorem dX5_mainTold_18 : decode cX5_mainTold 18 = .ok (.invokevirtual 213, 3) := by decide +kernel
theorem dX5_mainTold_21 : decode cX5_mainTold 21 = .ok (.istore 4, 2) := by decide +kernel
theorem dX5_mainTold_23 : decode cX5_mainTold 23 = .ok (.iload 4, 2) := by decide +kernel
theorem dX5_mainTold_25 : decode cX5_mainTold 25 = .ok (.iload_n 2, 1) := by decide +kernel
theorem dX5_mainTold_26 : decode cX5_mainTold 26 = .ok (.if_icmp .le 7, 3) := by decide +kernel
theorem dX5_mainTold_29 : decode cX5_mainTold 29 = .ok (.iload_n 3, 1) := by decide +kernel
theorem dX5_mainTold_30 : decode cX5_mainTold 30 = .ok (.goto 4, 3) := by decide +kernel
theorem dX5_mainTold_33 : decode cX5_mainTold 33 = .ok (.iload_n 1, 1) := by decide +kernel
theorem dX5_mainTold_34 : decode cX5_mainTold 34 = .ok (.istore_n 1, 1) := by decide +kernel
theorem dX5_mainTold_35 : decode cX5_mainTold 35 = .ok (.iload 4, 2) := by decide +kernel
theorem dX5_mainTold_37 : decode cX5_mainTold 37 = .ok (.iload_n 2, 1) := by decide +kernel
theorem dX5_mainTold_38 : decode cX5_mainTold 38 = .ok (.if_icmp .le 8, 3) := by decide +kernel
theorem dX5_mainTold_41 : decode cX5_mainTold 41 = .ok (.iload 4, 2) := by decide +kernel
theorem dX5_mainTold_43 : decode cX5_mainTold 43 = .ok (.goto 4, 3) := by decide +kernel
theorem dX5_mainTold_46 : decode cX5_mainTold 46 = .ok (.iload_n 2, 1) := by decide +kernel
theorem dX5_mainTold_47 : decode cX5_mainTold 47 = .ok (.istore_n 2, 1) := by decide +kernel
theorem dX5_mainTold_48 : decode cX5_mainTold 48 = .ok (.iinc 3 1, 3) := by decide +kernel
theorem dX5_mainTold_51 : decode cX5_mainTold 51 = .ok (.goto (-45), 3) := by decide +kernel
theorem dX5_mainTold_54 : decode cX5_mainTold 54 = .ok (.iload_n 1, 1) := by decide +kernel
theorem dX5_mainTold_55 : decode cX5_mainTold 55 = .ok (.ireturn, 1) := by decide +kernel
theorem dX5_mainLesson_0 : decode cX5_mainLesson 0 = .ok (.aload_n 0, 1) := by decide +kernel
theorem dX5_mainLesson_1 : decode cX5_mainLesson 1 = .ok (.iconst 0, 1) := by decide +kernel
theorem dX5_mainLesson_2 : decode cX5_mainLesson 2 = .ok (.putfield 54, 3) := by decide +kernel
theorem dX5_mainLesson_5 : decode cX5_mainLesson 5 = .ok (.aload_n 0, 1) := by decide +kernel
theorem dX5_mainLesson_6 : decode cX5_mainLesson 6 = .ok (.invokevirtual 216, 3) := by decide +kernel
theorem dX5_mainLesson_9 : decode cX5_mainLesson 9 = .ok (.ireturn, 1) := by decide +kernel
theorem dX5_shareTold_0 : decode cX5_shareTold 0 = .ok (.iconst 0, 1) := by decide +kernel
theorem dX5_shareTold_1 : decode cX5_shareTold 1 = .ok (.istore_n 1, 1) := by decide +kernel
theorem dX5_shareTold_2 : decode cX5_shareTold 2 = .ok (.iconst 0, 1) := by decide +kernel
theorem dX5_shareTold_3 : decode cX5_shareTold 3 = .ok (.istore_n 2, 1) := by decide +kernel
theorem dX5_shareTold_4 : decode cX5_shareTold 4 = .ok (.iload_n 2, 1) := by decide +kernel
theorem dX5_shareTold_5 : decode cX5_shareTold 5 = .ok (.bipush 100, 2) := by decide +kernel
theorem dX5_shareTold_7 : decode cX5_shareTold 7 = .ok (.if_icmp .ge 25, 3) := by decide +kernel
theorem dX5_shareTold_10 : decode cX5_shareTold 10 = .ok (.iload_n 1, 1) := by decide +kernel
theorem dX5_shareTold_11 : decode cX5_shareTold 11 = .ok (.aload_n 0, 1) := by decide +kernel
theorem dX5_shareTold_12 : decode cX5_shareTold 12 = .ok (.iload_n 2, 1) := by decide +kernel
theorem dX5_shareTold_13 : decode cX5_shareTold 13 = .ok (.invokevirtual 77, 3) := by decide +kernel
theorem dX5_shareTold_16 : decode cX5_shareTold 16 = .ok (.ifCond .ge 7, 3) := by decide +kernel
theorem dX5_shareTold_19 : decode cX5_shareTold 19 = .ok (.iconst 1, 1) := by decide +kernel
theorem dX5_shareTold_20 : decode cX5_shareTold 20 = .ok (.goto 4, 3) := by decide +kernel
theorem dX5_shareTold_23 : decode cX5_shareTold 23 = .ok (.iconst 0, 1) := by decide +kernel
theorem dX5_shareTold_24 : decode cX5_shareTold 24 = .ok (.iadd, 1) := by decide +kernel
theorem dX5_shareTold_25 : decode cX5_shareTold 25 = .ok (.istore_n 1, 1) := by decide +kernel
theorem dX5_shareTold_26 : decode cX5_shareTold 26 = .ok (.iinc 2 1, 3) := by decide +kernel
theorem dX5_shareTold_29 : decode cX5_shareTold 29 = .ok (.goto (-25), 3) := by decide +kernel
theorem dX5_shareTold_32 : decode cX5_shareTold 32 = .ok (.iload_n 1, 1) := by decide +kernel
theorem dX5_shareTold_33 : decode cX5_shareTold 33 = .ok (.i2d, 1) := by decide +kernel
theorem dX5_shareTold_34 : decode cX5_shareTold 34 = .ok (.ldc2_w 219, 3) := by decide +kernel
theorem dX5_shareTold_37 : decode cX5_shareTold 37 = .ok (.ddiv, 1) := by decide +kernel
theorem dX5_shareTold_38 : decode cX5_shareTold 38 = .ok (.dreturn, 1) := by decide +kernel
theorem dX5_tightShare_0 : decode cX5_tightShare 0 = .ok (.aload_n 0, 1) := by decide +kernel
theorem dX5_tightShare_1 : decode cX5_tightShare 1 = .ok (.iconst 0, 1) := by decide +kernel
theorem dX5_tightShare_2 : decode cX5_tightShare 2 = .ok (.putfield 54, 3) := by decide +kernel
theorem dX5_tightShare_5 : decode cX5_tightShare 5 = .ok (.aload_n 0, 1) := by decide +kernel
theorem dX5_tightShare_6 : decode cX5_tightShare 6 = .ok (.invokevirtual 98, 3) := by decide +kernel
theorem dX5_tightShare_9 : decode cX5_tightShare 9 = .ok (.aload_n 0, 1) := by decide +kernel
theorem dX5_tightShare_10 : decode cX5_tightShare 10 = .ok (.invokevirtual 221, 3) := by decide +kernel
theorem dX5_tightShare_13 : decode cX5_tightShare 13 = .ok (.dreturn, 1) := by decide +kernel
theorem dX5_bitsOf_0 : decode cX5_bitsOf 0 = .ok (.dload_n 0, 1) := by decide +kernel
theorem dX5_bitsOf_1 : decode cX5_bitsOf 1 = .ok (.dconst 0, 1) := by decide +kernel
theorem dX5_bitsOf_2 : decode cX5_bitsOf 2 = .ok (.dcmp .l, 1) := by decide +kernel
theorem dX5_bitsOf_3 : decode cX5_bitsOf 3 = .ok (.ifCond .ne 5, 3) := by decide +kernel
theorem dX5_bitsOf_6 : decode cX5_bitsOf 6 = .ok (.lconst 0, 1) := by decide +kernel
theorem dX5_bitsOf_7 : decode cX5_bitsOf 7 = .ok (.lreturn, 1) := by decide +kernel
theorem dX5_bitsOf_8 : decode cX5_bitsOf 8 = .ok (.ldc2_w 225, 3) := by decide +kernel
theorem dX5_bitsOf_11 : decode cX5_bitsOf 11 = .ok (.lstore_n 2, 1) := by decide +kernel
theorem dX5_bitsOf_12 : decode cX5_bitsOf 12 = .ok (.dload_n 0, 1) := by decide +kernel
theorem dX5_bitsOf_13 : decode cX5_bitsOf 13 = .ok (.dstore 4, 2) := by decide +kernel
theorem dX5_bitsOf_15 : decode cX5_bitsOf 15 = .ok (.dload 4, 2) := by decide +kernel
theorem dX5_bitsOf_17 : decode cX5_bitsOf 17 = .ok (.dconst 1, 1) := by decide +kernel
theorem dX5_bitsOf_18 : decode cX5_bitsOf 18 = .ok (.dcmp .g, 1) := by decide +kernel
theorem dX5_bitsOf_19 : decode cX5_bitsOf 19 = .ok (.ifCond .ge 18, 3) := by decide +kernel
theorem dX5_bitsOf_22 : decode cX5_bitsOf 22 = .ok (.dload 4, 2) := by decide +kernel
theorem dX5_bitsOf_24 : decode cX5_bitsOf 24 = .ok (.ldc2_w 227, 3) := by decide +kernel
theorem dX5_bitsOf_27 : decode cX5_bitsOf 27 = .ok (.dmul, 1) := by decide +kernel
theorem dX5_bitsOf_28 : decode cX5_bitsOf 28 = .ok (.dstore 4, 2) := by decide +kernel
theorem dX5_bitsOf_30 : decode cX5_bitsOf 30 = .ok (.lload_n 2, 1) := by decide +kernel
theorem dX5_bitsOf_31 : decode cX5_bitsOf 31 = .ok (.lconst 1, 1) := by decide +kernel
theorem dX5_bitsOf_32 : decode cX5_bitsOf 32 = .ok (.lsub, 1) := by decide +kernel
theorem dX5_bitsOf_33 : decode cX5_bitsOf 33 = .ok (.lstore_n 2, 1) := by decide +kernel
theorem dX5_bitsOf_34 : decode cX5_bitsOf 34 = .ok (.goto (-19), 3) := by decide +kernel
theorem dX5_bitsOf_37 : decode cX5_bitsOf 37 = .ok (.lload_n 2, 1) := by decide +kernel
theorem dX5_bitsOf_38 : decode cX5_bitsOf 38 = .ok (.ldc2_w 229, 3) := by decide +kernel
theorem dX5_bitsOf_41 : decode cX5_bitsOf 41 = .ok (.lmul, 1) := by decide +kernel
theorem dX5_bitsOf_42 : decode cX5_bitsOf 42 = .ok (.dload 4, 2) := by decide +kernel
theorem dX5_bitsOf_44 : decode cX5_bitsOf 44 = .ok (.dconst 1, 1) := by decide +kernel
theorem dX5_bitsOf_45 : decode cX5_bitsOf 45 = .ok (.dsub, 1) := by decide +kernel
theorem dX5_bitsOf_46 : decode cX5_bitsOf 46 = .ok (.ldc2_w 231, 3) := by decide +kernel
theorem dX5_bitsOf_49 : decode cX5_bitsOf 49 = .ok (.dmul, 1) := by decide +kernel
theorem dX5_bitsOf_50 : decode cX5_bitsOf 50 = .ok (.d2l, 1) := by decide +kernel
theorem dX5_bitsOf_51 : decode cX5_bitsOf 51 = .ok (.ladd, 1) := by decide +kernel
theorem dX5_bitsOf_52 : decode cX5_bitsOf 52 = .ok (.lreturn, 1) := by decide +kernel
theorem dX5_mix_0 : decode cX5_mix 0 = .ok (.aload_n 0, 1) := by decide +kernel
theorem dX5_mix_1 : decode cX5_mix 1 = .ok (.ldc2_w 233, 3) := by decide +kernel
theorem dX5_mix_4 : decode cX5_mix 4 = .ok (.aload_n 0, 1) := by decide +kernel
theorem dX5_mix_5 : decode cX5_mix 5 = .ok (.getfield 235, 3) := by decide +kernel
theorem dX5_mix_8 : decode cX5_mix 8 = .ok (.lmul, 1) := by decide +kernel
theorem dX5_mix_9 : decode cX5_mix 9 = .ok (.lload_n 1, 1) := by decide +kernel
theorem dX5_mix_10 : decode cX5_mix 10 = .ok (.ladd, 1) := by decide +kernel
theorem dX5_mix_11 : decode cX5_mix 11 = .ok (.putfield 235, 3) := by decide +kernel
theorem dX5_mix_14 : decode cX5_mix 14 = .ok (.return_, 1) := by decide +kernel
theorem dX5_mixPairs_0 : decode cX5_mixPairs 0 = .ok (.iconst 0, 1) := by decide +kernel
theorem dX5_mixPairs_1 : decode cX5_mixPairs 1 = .ok (.istore_n 1, 1) := by decide +kernel
theorem dX5_mixPairs_2 : decode cX5_mixPairs 2 = .ok (.iload_n 1, 1) := by decide +kernel
theorem dX5_mixPairs_3 : decode cX5_mixPairs 3 = .ok (.bipush 100, 2) := by decide +kernel
theorem dX5_mixPairs_5 : decode cX5_mixPairs 5 = .ok (.if_icmp .ge 53, 3) := by decide +kernel
theorem dX5_mixPairs_8 : decode cX5_mixPairs 8 = .ok (.aload_n 0, 1) := by decide +kernel
theorem dX5_mixPairs_9 : decode cX5_mixPairs 9 = .ok (.aload_n 0, 1) := by decide +kernel
theorem dX5_mixPairs_10 : decode cX5_mixPairs 10 = .ok (.iload_n 1, 1) := by decide +kernel
theorem dX5_mixPairs_11 : decode cX5_mixPairs 11 = .ok (.iconst 0, 1) := by decide +kernel
theorem dX5_mixPairs_12 : decode cX5_mixPairs 12 = .ok (.invokevirtual 167, 3) := by decide +kernel
theorem dX5_mixPairs_15 : decode cX5_mixPairs 15 = .ok (.i2l, 1) := by decide +kernel
theorem dX5_mixPairs_16 : decode cX5_mixPairs 16 = .ok (.invokevirtual 239, 3) := by decide +kernel
theorem dX5_mixPairs_19 : decode cX5_mixPairs 19 = .ok (.aload_n 0, 1) := by decide +kernel
theorem dX5_mixPairs_20 : decode cX5_mixPairs 20 = .ok (.aload_n 0, 1) := by decide +kernel
theorem dX5_mixPairs_21 : decode cX5_mixPairs 21 = .ok (.iload_n 1, 1) := by decide +kernel
theorem dX5_mixPairs_22 : decode cX5_mixPairs 22 = .ok (.iconst 2, 1) := by decide +kernel
theorem dX5_mixPairs_23 : decode cX5_mixPairs 23 = .ok (.invokevirtual 167, 3) := by decide +kernel
theorem dX5_mixPairs_26 : decode cX5_mixPairs 26 = .ok (.i2l, 1) := by decide +kernel
theorem dX5_mixPairs_27 : decode cX5_mixPairs 27 = .ok (.invokevirtual 239, 3) := by decide +kernel
theorem dX5_mixPairs_30 : decode cX5_mixPairs 30 = .ok (.aload_n 0, 1) := by decide +kernel
theorem dX5_mixPairs_31 : decode cX5_mixPairs 31 = .ok (.aload_n 0, 1) := by decide +kernel
theorem dX5_mixPairs_32 : decode cX5_mixPairs 32 = .ok (.iload_n 1, 1) := by decide +kernel
theorem dX5_mixPairs_33 : decode cX5_mixPairs 33 = .ok (.iconst 3, 1) := by decide +kernel
theorem dX5_mixPairs_34 : decode cX5_mixPairs 34 = .ok (.invokevirtual 167, 3) := by decide +kernel
theorem dX5_mixPairs_37 : decode cX5_mixPairs 37 = .ok (.i2l, 1) := by decide +kernel
theorem dX5_mixPairs_38 : decode cX5_mixPairs 38 = .ok (.invokevirtual 239, 3) := by decide +kernel
theorem dX5_mixPairs_41 : decode cX5_mixPairs 41 = .ok (.aload_n 0, 1) := by decide +kernel
theorem dX5_mixPairs_42 : decode cX5_mixPairs 42 = .ok (.aload_n 0, 1) := by decide +kernel
theorem dX5_mixPairs_43 : decode cX5_mixPairs 43 = .ok (.iload_n 1, 1) := by decide +kernel
theorem dX5_mixPairs_44 : decode cX5_mixPairs 44 = .ok (.iconst 4, 1) := by decide +kernel
theorem dX5_mixPairs_45 : decode cX5_mixPairs 45 = .ok (.invokevirtual 167, 3) := by decide +kernel
theorem dX5_mixPairs_48 : decode cX5_mixPairs 48 = .ok (.i2l, 1) := by decide +kernel
theorem dX5_mixPairs_49 : decode cX5_mixPairs 49 = .ok (.invokevirtual 239, 3) := by decide +kernel
theorem dX5_mixPairs_52 : decode cX5_mixPairs 52 = .ok (.iinc 1 1, 3) := by decide +kernel
theorem dX5_mixPairs_55 : decode cX5_mixPairs 55 = .ok (.goto (-53), 3) := by decide +kernel
theorem dX5_mixPairs_58 : decode cX5_mixPairs 58 = .ok (.iconst 0, 1) := by decide +kernel
theorem dX5_mixPairs_59 : decode cX5_mixPairs 59 = .ok (.istore_n 1, 1) := by decide +kernel
theorem dX5_mixPairs_60 : decode cX5_mixPairs 60 = .ok (.iload_n 1, 1) := by decide +kernel
theorem dX5_mixPairs_61 : decode cX5_mixPairs 61 = .ok (.bipush 64, 2) := by decide +kernel
theorem dX5_mixPairs_63 : decode cX5_mixPairs 63 = .ok (.if_icmp .ge 24, 3) := by decide +kernel
theorem dX5_mixPairs_66 : decode cX5_mixPairs 66 = .ok (.aload_n 0, 1) := by decide +kernel
theorem dX5_mixPairs_67 : decode cX5_mixPairs 67 = .ok (.aload_n 0, 1) := by decide +kernel
theorem dX5_mixPairs_68 : decode cX5_mixPairs 68 = .ok (.iload_n 1, 1) := by decide +kernel
theorem dX5_mixPairs_69 : decode cX5_mixPairs 69 = .ok (.iconst 4, 1) := by decide +kernel
theorem dX5_mixPairs_70 : decode cX5_mixPairs 70 = .ok (.idiv, 1) := by decide +kernel
theorem dX5_mixPairs_71 : decode cX5_mixPairs 71 = .ok (.iload_n 1, 1) := by decide +kernel
theorem dX5_mixPairs_72 : decode cX5_mixPairs 72 = .ok (.iconst 4, 1) := by decide +kernel
theorem dX5_mixPairs_73 : decode cX5_mixPairs 73 = .ok (.irem, 1) := by decide +kernel
theorem dX5_mixPairs_74 : decode cX5_mixPairs 74 = .ok (.invokevirtual 174, 3) := by decide +kernel
theorem dX5_mixPairs_77 : decode cX5_mixPairs 77 = .ok (.i2l, 1) := by decide +kernel
theorem dX5_mixPairs_78 : decode cX5_mixPairs 78 = .ok (.invokevirtual 239, 3) := by decide +kernel
theorem dX5_mixPairs_81 : decode cX5_mixPairs 81 = .ok (.iinc 1 1, 3) := by decide +kernel
theorem dX5_mixPairs_84 : decode cX5_mixPairs 84 = .ok (.goto (-24), 3) := by decide +kernel
theorem dX5_mixPairs_87 : decode cX5_mixPairs 87 = .ok (.return_, 1) := by decide +kernel
theorem dX5_mixLessons_0 : decode cX5_mixLessons 0 = .ok (.iconst 0, 1) := by decide +kernel
theorem dX5_mixLessons_1 : decode cX5_mixLessons 1 = .ok (.istore_n 1, 1) := by decide +kernel
theorem dX5_mixLessons_2 : decode cX5_mixLessons 2 = .ok (.iload_n 1, 1) := by decide +kernel
theorem dX5_mixLessons_3 : decode cX5_mixLessons 3 = .ok (.aload_n 0, 1) := by decide +kernel
theorem dX5_mixLessons_4 : decode cX5_mixLessons 4 = .ok (.getfield 7, 3) := by decide +kernel
theorem dX5_mixLessons_7 : decode cX5_mixLessons 7 = .ok (.iconst 0, 1) := by decide +kernel
theorem dX5_mixLessons_8 : decode cX5_mixLessons 8 = .ok (.iaload, 1) := by decide +kernel
theorem dX5_mixLessons_9 : decode cX5_mixLessons 9 = .ok (.if_icmp .ge 47, 3) := by decide +kernel
theorem dX5_mixLessons_12 : decode cX5_mixLessons 12 = .ok (.aload_n 0, 1) := by decide +kernel
theorem dX5_mixLessons_13 : decode cX5_mixLessons 13 = .ok (.invokevirtual 98, 3) := by decide +kernel
theorem dX5_mixLessons_16 : decode cX5_mixLessons 16 = .ok (.iconst 0, 1) := by decide +kernel
theorem dX5_mixLessons_17 : decode cX5_mixLessons 17 = .ok (.istore_n 2, 1) := by decide +kernel
theorem dX5_mixLessons_18 : decode cX5_mixLessons 18 = .ok (.iload_n 2, 1) := by decide +kernel
theorem dX5_mixLessons_19 : decode cX5_mixLessons 19 = .ok (.iconst 4, 1) := by decide +kernel
theorem dX5_mixLessons_20 : decode cX5_mixLessons 20 = .ok (.if_icmp .ge 20, 3) := by decide +kernel
theorem dX5_mixLessons_23 : decode cX5_mixLessons 23 = .ok (.aload_n 0, 1) := by decide +kernel
theorem dX5_mixLessons_24 : decode cX5_mixLessons 24 = .ok (.aload_n 0, 1) := by decide +kernel
theorem dX5_mixLessons_25 : decode cX5_mixLessons 25 = .ok (.iload_n 1, 1) := by decide +kernel
theorem dX5_mixLessons_26 : decode cX5_mixLessons 26 = .ok (.iload_n 2, 1) := by decide +kernel
theorem dX5_mixLessons_27 : decode cX5_mixLessons 27 = .ok (.invokevirtual 177, 3) := by decide +kernel
theorem dX5_mixLessons_30 : decode cX5_mixLessons 30 = .ok (.i2l, 1) := by decide +kernel
theorem dX5_mixLessons_31 : decode cX5_mixLessons 31 = .ok (.invokevirtual 239, 3) := by decide +kernel
theorem dX5_mixLessons_34 : decode cX5_mixLessons 34 = .ok (.iinc 2 1, 3) := by decide +kernel
theorem dX5_mixLessons_37 : decode cX5_mixLessons 37 = .ok (.goto (-19), 3) := by decide +kernel
theorem dX5_mixLessons_40 : decode cX5_mixLessons 40 = .ok (.aload_n 0, 1) := by decide +kernel
theorem dX5_mixLessons_41 : decode cX5_mixLessons 41 = .ok (.aload_n 0, 1) := by decide +kernel
theorem dX5_mixLessons_42 : decode cX5_mixLessons 42 = .ok (.iload_n 1, 1) := by decide +kernel
theorem dX5_mixLessons_43 : decode cX5_mixLessons 43 = .ok (.invokevirtual 213, 3) := by decide +kernel
theorem dX5_mixLessons_46 : decode cX5_mixLessons 46 = .ok (.i2l, 1) := by decide +kernel
theorem dX5_mixLessons_47 : decode cX5_mixLessons 47 = .ok (.invokevirtual 239, 3) := by decide +kernel
theorem dX5_mixLessons_50 : decode cX5_mixLessons 50 = .ok (.iinc 1 1, 3) := by decide +kernel
theorem dX5_mixLessons_53 : decode cX5_mixLessons 53 = .ok (.goto (-51), 3) := by decide +kernel
theorem dX5_mixLessons_56 : decode cX5_mixLessons 56 = .ok (.aload_n 0, 1) := by decide +kernel
theorem dX5_mixLessons_57 : decode cX5_mixLessons 57 = .ok (.invokevirtual 98, 3) := by decide +kernel
theorem dX5_mixLessons_60 : decode cX5_mixLessons 60 = .ok (.return_, 1) := by decide +kernel
theorem dX5_digest_0 : decode cX5_digest 0 = .ok (.aload_n 0, 1) := by decide +kernel
theorem dX5_digest_1 : decode cX5_digest 1 = .ok (.iconst 0, 1) := by decide +kernel
theorem dX5_digest_2 : decode cX5_digest 2 = .ok (.putfield 54, 3) := by decide +kernel
theorem dX5_digest_5 : decode cX5_digest 5 = .ok (.aload_n 0, 1) := by decide +kernel
theorem dX5_digest_6 : decode cX5_digest 6 = .ok (.invokevirtual 98, 3) := by decide +kernel
theorem dX5_digest_9 : decode cX5_digest 9 = .ok (.aload_n 0, 1) := by decide +kernel
theorem dX5_digest_10 : decode cX5_digest 10 = .ok (.ldc2_w 243, 3) := by decide +kernel
theorem dX5_digest_13 : decode cX5_digest 13 = .ok (.putfield 235, 3) := by decide +kernel
theorem dX5_digest_16 : decode cX5_digest 16 = .ok (.iconst 0, 1) := by decide +kernel
theorem dX5_digest_17 : decode cX5_digest 17 = .ok (.istore_n 1, 1) := by decide +kernel
theorem dX5_digest_18 : decode cX5_digest 18 = .ok (.iload_n 1, 1) := by decide +kernel
theorem dX5_digest_19 : decode cX5_digest 19 = .ok (.bipush 8, 2) := by decide +kernel
theorem dX5_digest_21 : decode cX5_digest 21 = .ok (.if_icmp .ge 19, 3) := by decide +kernel
theorem dX5_digest_24 : decode cX5_digest 24 = .ok (.aload_n 0, 1) := by decide +kernel
theorem dX5_digest_25 : decode cX5_digest 25 = .ok (.aload_n 0, 1) := by decide +kernel
theorem dX5_digest_26 : decode cX5_digest 26 = .ok (.iload_n 1, 1) := by decide +kernel
theorem dX5_digest_27 : decode cX5_digest 27 = .ok (.invokevirtual 189, 3) := by decide +kernel
theorem dX5_digest_30 : decode cX5_digest 30 = .ok (.i2l, 1) := by decide +kernel
theorem dX5_digest_31 : decode cX5_digest 31 = .ok (.invokevirtual 239, 3) := by decide +kernel
theorem dX5_digest_34 : decode cX5_digest 34 = .ok (.iinc 1 1, 3) := by decide +kernel
theorem dX5_digest_37 : decode cX5_digest 37 = .ok (.goto (-19), 3) := by decide +kernel
theorem dX5_digest_40 : decode cX5_digest 40 = .ok (.iconst 0, 1) := by decide +kernel
theorem dX5_digest_41 : decode cX5_digest 41 = .ok (.istore_n 1, 1) := by decide +kernel
theorem dX5_digest_42 : decode cX5_digest 42 = .ok (.iload_n 1, 1) := by decide +kernel
theorem dX5_digest_43 : decode cX5_digest 43 = .ok (.iconst 4, 1) := by decide +kernel
theorem dX5_digest_44 : decode cX5_digest 44 = .ok (.if_icmp .ge 22, 3) := by decide +kernel
theorem dX5_digest_47 : decode cX5_digest 47 = .ok (.aload_n 0, 1) := by decide +kernel
theorem dX5_digest_48 : decode cX5_digest 48 = .ok (.aload_n 0, 1) := by decide +kernel
theorem dX5_digest_49 : decode cX5_digest 49 = .ok (.getfield 7, 3) := by decide +kernel
theorem dX5_digest_52 : decode cX5_digest 52 = .ok (.iconst 1, 1) := by decide +kernel
theorem dX5_digest_53 : decode cX5_digest 53 = .ok (.iload_n 1, 1) := by decide +kernel
theorem dX5_digest_54 : decode cX5_digest 54 = .ok (.iadd, 1) := by decide +kernel
theorem dX5_digest_55 : decode cX5_digest 55 = .ok (.iaload, 1) := by decide +kernel
theorem dX5_digest_56 : decode cX5_digest 56 = .ok (.i2l, 1) := by decide +kernel
theorem dX5_digest_57 : decode cX5_digest 57 = .ok (.invokevirtual 239, 3) := by decide +kernel
theorem dX5_digest_60 : decode cX5_digest 60 = .ok (.iinc 1 1, 3) := by decide +kernel
theorem dX5_digest_63 : decode cX5_digest 63 = .ok (.goto (-21), 3) := by decide +kernel
theorem dX5_digest_66 : decode cX5_digest 66 = .ok (.iconst 0, 1) := by decide +kernel
theorem dX5_digest_67 : decode cX5_digest 67 = .ok (.istore_n 1, 1) := by decide +kernel
theorem dX5_digest_68 : decode cX5_digest 68 = .ok (.iload_n 1, 1) := by decide +kernel
theorem dX5_digest_69 : decode cX5_digest 69 = .ok (.bipush 40, 2) := by decide +kernel
theorem dX5_digest_71 : decode cX5_digest 71 = .ok (.if_icmp .ge 24, 3) := by decide +kernel
theorem dX5_digest_74 : decode cX5_digest 74 = .ok (.aload_n 0, 1) := by decide +kernel
theorem dX5_digest_75 : decode cX5_digest 75 = .ok (.aload_n 0, 1) := by decide +kernel
theorem dX5_digest_76 : decode cX5_digest 76 = .ok (.iload_n 1, 1) := by decide +kernel
theorem dX5_digest_77 : decode cX5_digest 77 = .ok (.iconst 4, 1) := by decide +kernel
theorem dX5_digest_78 : decode cX5_digest 78 = .ok (.idiv, 1) := by decide +kernel
theorem dX5_digest_79 : decode cX5_digest 79 = .ok (.iload_n 1, 1) := by decide +kernel
theorem dX5_digest_80 : decode cX5_digest 80 = .ok (.iconst 4, 1) := by decide +kernel
theorem dX5_digest_81 : decode cX5_digest 81 = .ok (.irem, 1) := by decide +kernel
theorem dX5_digest_82 : decode cX5_digest 82 = .ok (.invokevirtual 164, 3) := by decide +kernel
theorem dX5_digest_85 : decode cX5_digest 85 = .ok (.i2l, 1) := by decide +kernel
theorem dX5_digest_86 : decode cX5_digest 86 = .ok (.invokevirtual 239, 3) := by decide +kernel
theorem dX5_digest_89 : decode cX5_digest 89 = .ok (.iinc 1 1, 3) := by decide +kernel
theorem dX5_digest_92 : decode cX5_digest 92 = .ok (.goto (-24), 3) := by decide +kernel
theorem dX5_digest_95 : decode cX5_digest 95 = .ok (.aload_n 0, 1) := by decide +kernel
theorem dX5_digest_96 : decode cX5_digest 96 = .ok (.invokevirtual 245, 3) := by decide +kernel
theorem dX5_digest_99 : decode cX5_digest 99 = .ok (.aload_n 0, 1) := by decide +kernel
theorem dX5_digest_100 : decode cX5_digest 100 = .ok (.invokevirtual 248, 3) := by decide +kernel
theorem dX5_digest_103 : decode cX5_digest 103 = .ok (.iconst 0, 1) := by decide +kernel
theorem dX5_digest_104 : decode cX5_digest 104 = .ok (.istore_n 1, 1) := by decide +kernel
theorem dX5_digest_105 : decode cX5_digest 105 = .ok (.iload_n 1, 1) := by decide +kernel
theorem dX5_digest_106 : decode cX5_digest 106 = .ok (.bipush 6, 2) := by decide +kernel
theorem dX5_digest_108 : decode cX5_digest 108 = .ok (.if_icmp .ge 19, 3) := by decide +kernel
theorem dX5_digest_111 : decode cX5_digest 111 = .ok (.aload_n 0, 1) := by decide +kernel
theorem dX5_digest_112 : decode cX5_digest 112 = .ok (.aload_n 0, 1) := by decide +kernel
theorem dX5_digest_113 : decode cX5_digest 113 = .ok (.iload_n 1, 1) := by decide +kernel
theorem dX5_digest_114 : decode cX5_digest 114 = .ok (.invokevirtual 210, 3) := by decide +kernel
theorem dX5_digest_117 : decode cX5_digest 117 = .ok (.i2l, 1) := by decide +kernel
theorem dX5_digest_118 : decode cX5_digest 118 = .ok (.invokevirtual 239, 3) := by decide +kernel
theorem dX5_digest_121 : decode cX5_digest 121 = .ok (.iinc 1 1, 3) := by decide +kernel
theorem dX5_digest_124 : decode cX5_digest 124 = .ok (.goto (-19), 3) := by decide +kernel
theorem dX5_digest_127 : decode cX5_digest 127 = .ok (.aload_n 0, 1) := by decide +kernel
theorem dX5_digest_128 : decode cX5_digest 128 = .ok (.aload_n 0, 1) := by decide +kernel
theorem dX5_digest_129 : decode cX5_digest 129 = .ok (.invokevirtual 216, 3) := by decide +kernel
theorem dX5_digest_132 : decode cX5_digest 132 = .ok (.i2l, 1) := by decide +kernel
theorem dX5_digest_133 : decode cX5_digest 133 = .ok (.invokevirtual 239, 3) := by decide +kernel
theorem dX5_digest_136 : decode cX5_digest 136 = .ok (.aload_n 0, 1) := by decide +kernel
theorem dX5_digest_137 : decode cX5_digest 137 = .ok (.invokevirtual 98, 3) := by decide +kernel
theorem dX5_digest_140 : decode cX5_digest 140 = .ok (.aload_n 0, 1) := by decide +kernel
theorem dX5_digest_141 : decode cX5_digest 141 = .ok (.aload_n 0, 1) := by decide +kernel
theorem dX5_digest_142 : decode cX5_digest 142 = .ok (.invokevirtual 221, 3) := by decide +kernel
theorem dX5_digest_145 : decode cX5_digest 145 = .ok (.invokestatic 251, 3) := by decide +kernel
theorem dX5_digest_148 : decode cX5_digest 148 = .ok (.invokevirtual 239, 3) := by decide +kernel
theorem dX5_digest_151 : decode cX5_digest 151 = .ok (.iconst 0, 1) := by decide +kernel
theorem dX5_digest_152 : decode cX5_digest 152 = .ok (.istore_n 1, 1) := by decide +kernel
theorem dX5_digest_153 : decode cX5_digest 153 = .ok (.iload_n 1, 1) := by decide +kernel
theorem dX5_digest_154 : decode cX5_digest 154 = .ok (.iconst 2, 1) := by decide +kernel
theorem dX5_digest_155 : decode cX5_digest 155 = .ok (.if_icmp .ge 27, 3) := by decide +kernel
theorem dX5_digest_158 : decode cX5_digest 158 = .ok (.aload_n 0, 1) := by decide +kernel
theorem dX5_digest_159 : decode cX5_digest 159 = .ok (.aload_n 0, 1) := by decide +kernel
theorem dX5_digest_160 : decode cX5_digest 160 = .ok (.getfield 19, 3) := by decide +kernel
theorem dX5_digest_163 : decode cX5_digest 163 = .ok (.iload_n 1, 1) := by decide +kernel
theorem dX5_digest_164 : decode cX5_digest 164 = .ok (.baload, 1) := by decide +kernel
theorem dX5_digest_165 : decode cX5_digest 165 = .ok (.ifCond .eq 7, 3) := by decide +kernel
theorem dX5_digest_168 : decode cX5_digest 168 = .ok (.lconst 1, 1) := by decide +kernel
theorem dX5_digest_169 : decode cX5_digest 169 = .ok (.goto 4, 3) := by decide +kernel
theorem dX5_digest_172 : decode cX5_digest 172 = .ok (.lconst 0, 1) := by decide +kernel
theorem dX5_digest_173 : decode cX5_digest 173 = .ok (.invokevirtual 239, 3) := by decide +kernel
theorem dX5_digest_176 : decode cX5_digest 176 = .ok (.iinc 1 1, 3) := by decide +kernel
theorem dX5_digest_179 : decode cX5_digest 179 = .ok (.goto (-26), 3) := by decide +kernel
theorem dX5_digest_182 : decode cX5_digest 182 = .ok (.aload_n 0, 1) := by decide +kernel
theorem dX5_digest_183 : decode cX5_digest 183 = .ok (.aload_n 0, 1) := by decide +kernel
theorem dX5_digest_184 : decode cX5_digest 184 = .ok (.getfield 142, 3) := by decide +kernel
theorem dX5_digest_187 : decode cX5_digest 187 = .ok (.i2l, 1) := by decide +kernel
theorem dX5_digest_188 : decode cX5_digest 188 = .ok (.invokevirtual 239, 3) := by decide +kernel
theorem dX5_digest_191 : decode cX5_digest 191 = .ok (.iconst 0, 1) := by decide +kernel
theorem dX5_digest_192 : decode cX5_digest 192 = .ok (.istore_n 1, 1) := by decide +kernel
theorem dX5_digest_193 : decode cX5_digest 193 = .ok (.iload_n 1, 1) := by decide +kernel
theorem dX5_digest_194 : decode cX5_digest 194 = .ok (.aload_n 0, 1) := by decide +kernel
theorem dX5_digest_195 : decode cX5_digest 195 = .ok (.getfield 142, 3) := by decide +kernel
theorem dX5_digest_198 : decode cX5_digest 198 = .ok (.if_icmp .ge 20, 3) := by decide +kernel
theorem dX5_digest_201 : decode cX5_digest 201 = .ok (.aload_n 0, 1) := by decide +kernel
theorem dX5_digest_202 : decode cX5_digest 202 = .ok (.aload_n 0, 1) := by decide +kernel
theorem dX5_digest_203 : decode cX5_digest 203 = .ok (.getfield 26, 3) := by decide +kernel
theorem dX5_digest_206 : decode cX5_digest 206 = .ok (.iload_n 1, 1) := by decide +kernel
theorem dX5_digest_207 : decode cX5_digest 207 = .ok (.iaload, 1) := by decide +kernel
theorem dX5_digest_208 : decode cX5_digest 208 = .ok (.i2l, 1) := by decide +kernel
theorem dX5_digest_209 : decode cX5_digest 209 = .ok (.invokevirtual 239, 3) := by decide +kernel
theorem dX5_digest_212 : decode cX5_digest 212 = .ok (.iinc 1 1, 3) := by decide +kernel
theorem dX5_digest_215 : decode cX5_digest 215 = .ok (.goto (-22), 3) := by decide +kernel
theorem dX5_digest_218 : decode cX5_digest 218 = .ok (.aload_n 0, 1) := by decide +kernel
theorem dX5_digest_219 : decode cX5_digest 219 = .ok (.getfield 235, 3) := by decide +kernel
theorem dX5_digest_222 : decode cX5_digest 222 = .ok (.lreturn, 1) := by decide +kernel
theorem dJ9_max_7cf53_0 : decode cJ9_max_7cf53 0 = .ok (.iload_n 0, 1) := by decide +kernel
theorem dJ9_max_7cf53_1 : decode cJ9_max_7cf53 1 = .ok (.iload_n 1, 1) := by decide +kernel
theorem dJ9_max_7cf53_2 : decode cJ9_max_7cf53 2 = .ok (.if_icmp .lt 7, 3) := by decide +kernel
theorem dJ9_max_7cf53_5 : decode cJ9_max_7cf53 5 = .ok (.iload_n 0, 1) := by decide +kernel
theorem dJ9_max_7cf53_6 : decode cJ9_max_7cf53 6 = .ok (.goto 4, 3) := by decide +kernel
theorem dJ9_max_7cf53_9 : decode cJ9_max_7cf53 9 = .ok (.iload_n 1, 1) := by decide +kernel
theorem dJ9_max_7cf53_10 : decode cJ9_max_7cf53 10 = .ok (.ireturn, 1) := by decide +kernel
theorem dJ9_min_7cf53_0 : decode cJ9_min_7cf53 0 = .ok (.iload_n 0, 1) := by decide +kernel
theorem dJ9_min_7cf53_1 : decode cJ9_min_7cf53 1 = .ok (.iload_n 1, 1) := by decide +kernel
theorem dJ9_min_7cf53_2 : decode cJ9_min_7cf53 2 = .ok (.if_icmp .gt 7, 3) := by decide +kernel
theorem dJ9_min_7cf53_5 : decode cJ9_min_7cf53 5 = .ok (.iload_n 0, 1) := by decide +kernel
theorem dJ9_min_7cf53_6 : decode cJ9_min_7cf53 6 = .ok (.goto 4, 3) := by decide +kernel
theorem dJ9_min_7cf53_9 : decode cJ9_min_7cf53 9 = .ok (.iload_n 1, 1) := by decide +kernel
theorem dJ9_min_7cf53_10 : decode cJ9_min_7cf53 10 = .ok (.ireturn, 1) := by decide +kernel
theorem dJ7_fill_53178_0 : decode cJ7_fill_53178 0 = .ok (.iconst 0, 1) := by decide +kernel
theorem dJ7_fill_53178_1 : decode cJ7_fill_53178 1 = .ok (.istore_n 2, 1) := by decide +kernel
theorem dJ7_fill_53178_2 : decode cJ7_fill_53178 2 = .ok (.aload_n 0, 1) := by decide +kernel
theorem dJ7_fill_53178_3 : decode cJ7_fill_53178 3 = .ok (.arraylength, 1) := by decide +kernel
theorem dJ7_fill_53178_4 : decode cJ7_fill_53178 4 = .ok (.istore_n 3, 1) := by decide +kernel
theorem dJ7_fill_53178_5 : decode cJ7_fill_53178 5 = .ok (.iload_n 2, 1) := by decide +kernel
theorem dJ7_fill_53178_6 : decode cJ7_fill_53178 6 = .ok (.iload_n 3, 1) := by decide +kernel
theorem dJ7_fill_53178_7 : decode cJ7_fill_53178 7 = .ok (.if_icmp .ge 13, 3) := by decide +kernel
theorem dJ7_fill_53178_10 : decode cJ7_fill_53178 10 = .ok (.aload_n 0, 1) := by decide +kernel
theorem dJ7_fill_53178_11 : decode cJ7_fill_53178 11 = .ok (.iload_n 2, 1) := by decide +kernel
theorem dJ7_fill_53178_12 : decode cJ7_fill_53178 12 = .ok (.iload_n 1, 1) := by decide +kernel
theorem dJ7_fill_53178_13 : decode cJ7_fill_53178 13 = .ok (.iastore, 1) := by decide +kernel
theorem dJ7_fill_53178_14 : decode cJ7_fill_53178 14 = .ok (.iinc 2 1, 3) := by decide +kernel
theorem dJ7_fill_53178_17 : decode cJ7_fill_53178 17 = .ok (.goto (-12), 3) := by decide +kernel
theorem dJ7_fill_53178_20 : decode cJ7_fill_53178 20 = .ok (.return_, 1) := by decide +kernel
theorem dL_width_0 : decode cL_width 0 = .ok (.aload_n 3, 1) := by decide +kernel
theorem dL_width_1 : decode cL_width 1 = .ok (.iconst 0, 1) := by decide +kernel
theorem dL_width_2 : decode cL_width 2 = .ok (.aload_n 0, 1) := by decide +kernel
theorem dL_width_3 : decode cL_width 3 = .ok (.iload_n 1, 1) := by decide +kernel
theorem dL_width_4 : decode cL_width 4 = .ok (.iload_n 2, 1) := by decide +kernel
theorem dL_width_5 : decode cL_width 5 = .ok (.invokevirtual 7, 3) := by decide +kernel
theorem dL_width_8 : decode cL_width 8 = .ok (.i2l, 1) := by decide +kernel
theorem dL_width_9 : decode cL_width 9 = .ok (.lastore, 1) := by decide +kernel
theorem dL_width_10 : decode cL_width 10 = .ok (.goto 11, 3) := by decide +kernel
theorem dL_width_13 : decode cL_width 13 = .ok (.astore 4, 2) := by decide +kernel
theorem dL_width_15 : decode cL_width 15 = .ok (.iconst 1, 1) := by decide +kernel
theorem dL_width_16 : decode cL_width 16 = .ok (.ireturn, 1) := by decide +kernel
theorem dL_width_17 : decode cL_width 17 = .ok (.astore 4, 2) := by decide +kernel
theorem dL_width_19 : decode cL_width 19 = .ok (.iconst 2, 1) := by decide +kernel
theorem dL_width_20 : decode cL_width 20 = .ok (.ireturn, 1) := by decide +kernel
theorem dL_width_21 : decode cL_width 21 = .ok (.iconst 0, 1) := by decide +kernel
theorem dL_width_22 : decode cL_width 22 = .ok (.ireturn, 1) := by decide +kernel
theorem dL_shape_0 : decode cL_shape 0 = .ok (.aload 4, 2) := by decide +kernel
theorem dL_shape_2 : decode cL_shape 2 = .ok (.iconst 0, 1) := by decide +kernel
theorem dL_shape_3 : decode cL_shape 3 = .ok (.aload_n 0, 1) := by decide +kernel
theorem dL_shape_4 : decode cL_shape 4 = .ok (.iload_n 1, 1) := by decide +kernel
theorem dL_shape_5 : decode cL_shape 5 = .ok (.iload_n 2, 1) := by decide +kernel
theorem dL_shape_6 : decode cL_shape 6 = .ok (.iload_n 3, 1) := by decide +kernel
theorem dL_shape_7 : decode cL_shape 7 = .ok (.invokevirtual 17, 3) := by decide +kernel
theorem dL_shape_10 : decode cL_shape 10 = .ok (.i2l, 1) := by decide +kernel
theorem dL_shape_11 : decode cL_shape 11 = .ok (.lastore, 1) := by decide +kernel
theorem dL_shape_12 : decode cL_shape 12 = .ok (.goto 11, 3) := by decide +kernel
theorem dL_shape_15 : decode cL_shape 15 = .ok (.astore 5, 2) := by decide +kernel
theorem dL_shape_17 : decode cL_shape 17 = .ok (.iconst 1, 1) := by decide +kernel
theorem dL_shape_18 : decode cL_shape 18 = .ok (.ireturn, 1) := by decide +kernel
theorem dL_shape_19 : decode cL_shape 19 = .ok (.astore 5, 2) := by decide +kernel
theorem dL_shape_21 : decode cL_shape 21 = .ok (.iconst 2, 1) := by decide +kernel
theorem dL_shape_22 : decode cL_shape 22 = .ok (.ireturn, 1) := by decide +kernel
theorem dL_shape_23 : decode cL_shape 23 = .ok (.iconst 0, 1) := by decide +kernel
theorem dL_shape_24 : decode cL_shape 24 = .ok (.ireturn, 1) := by decide +kernel
theorem dL_base_0 : decode cL_base 0 = .ok (.aload 4, 2) := by decide +kernel
theorem dL_base_2 : decode cL_base 2 = .ok (.iconst 0, 1) := by decide +kernel
theorem dL_base_3 : decode cL_base 3 = .ok (.aload_n 0, 1) := by decide +kernel
theorem dL_base_4 : decode cL_base 4 = .ok (.iload_n 1, 1) := by decide +kernel
theorem dL_base_5 : decode cL_base 5 = .ok (.iload_n 2, 1) := by decide +kernel
theorem dL_base_6 : decode cL_base 6 = .ok (.iload_n 3, 1) := by decide +kernel
theorem dL_base_7 : decode cL_base 7 = .ok (.invokevirtual 21, 3) := by decide +kernel
theorem dL_base_10 : decode cL_base 10 = .ok (.i2l, 1) := by decide +kernel
theorem dL_base_11 : decode cL_base 11 = .ok (.lastore, 1) := by decide +kernel
theorem dL_base_12 : decode cL_base 12 = .ok (.goto 11, 3) := by decide +kernel
theorem dL_base_15 : decode cL_base 15 = .ok (.astore 5, 2) := by decide +kernel
theorem dL_base_17 : decode cL_base 17 = .ok (.iconst 1, 1) := by decide +kernel
theorem dL_base_18 : decode cL_base 18 = .ok (.ireturn, 1) := by decide +kernel
theorem dL_base_19 : decode cL_base 19 = .ok (.astore 5, 2) := by decide +kernel
theorem dL_base_21 : decode cL_base 21 = .ok (.iconst 2, 1) := by decide +kernel
theorem dL_base_22 : decode cL_base 22 = .ok (.ireturn, 1) := by decide +kernel
theorem dL_base_23 : decode cL_base 23 = .ok (.iconst 0, 1) := by decide +kernel
theorem dL_base_24 : decode cL_base 24 = .ok (.ireturn, 1) := by decide +kernel
theorem dL_set_0 : decode cL_set 0 = .ok (.aload_n 3, 1) := by decide +kernel
theorem dL_set_1 : decode cL_set 1 = .ok (.iconst 0, 1) := by decide +kernel
theorem dL_set_2 : decode cL_set 2 = .ok (.aload_n 0, 1) := by decide +kernel
theorem dL_set_3 : decode cL_set 3 = .ok (.iload_n 1, 1) := by decide +kernel
theorem dL_set_4 : decode cL_set 4 = .ok (.iload_n 2, 1) := by decide +kernel
theorem dL_set_5 : decode cL_set 5 = .ok (.invokevirtual 24, 3) := by decide +kernel
theorem dL_set_8 : decode cL_set 8 = .ok (.i2l, 1) := by decide +kernel
theorem dL_set_9 : decode cL_set 9 = .ok (.lastore, 1) := by decide +kernel
theorem dL_set_10 : decode cL_set 10 = .ok (.goto 11, 3) := by decide +kernel
theorem dL_set_13 : decode cL_set 13 = .ok (.astore 4, 2) := by decide +kernel
theorem dL_set_15 : decode cL_set 15 = .ok (.iconst 1, 1) := by decide +kernel
theorem dL_set_16 : decode cL_set 16 = .ok (.ireturn, 1) := by decide +kernel
theorem dL_set_17 : decode cL_set 17 = .ok (.astore 4, 2) := by decide +kernel
theorem dL_set_19 : decode cL_set 19 = .ok (.iconst 2, 1) := by decide +kernel
theorem dL_set_20 : decode cL_set 20 = .ok (.ireturn, 1) := by decide +kernel
theorem dL_set_21 : decode cL_set 21 = .ok (.iconst 0, 1) := by decide +kernel
theorem dL_set_22 : decode cL_set 22 = .ok (.ireturn, 1) := by decide +kernel
theorem dL_circle_0 : decode cL_circle 0 = .ok (.aload 4, 2) := by decide +kernel
theorem dL_circle_2 : decode cL_circle 2 = .ok (.iconst 0, 1) := by decide +kernel
theorem dL_circle_3 : decode cL_circle 3 = .ok (.aload_n 0, 1) := by decide +kernel
theorem dL_circle_4 : decode cL_circle 4 = .ok (.iload_n 1, 1) := by decide +kernel
theorem dL_circle_5 : decode cL_circle 5 = .ok (.iload_n 2, 1) := by decide +kernel
theorem dL_circle_6 : decode cL_circle 6 = .ok (.iload_n 3, 1) := by decide +kernel
theorem dL_circle_7 : decode cL_circle 7 = .ok (.invokevirtual 27, 3) := by decide +kernel
theorem dL_circle_10 : decode cL_circle 10 = .ok (.i2l, 1) := by decide +kernel
theorem dL_circle_11 : decode cL_circle 11 = .ok (.lastore, 1) := by decide +kernel
theorem dL_circle_12 : decode cL_circle 12 = .ok (.goto 11, 3) := by decide +kernel
theorem dL_circle_15 : decode cL_circle 15 = .ok (.astore 5, 2) := by decide +kernel
theorem dL_circle_17 : decode cL_circle 17 = .ok (.iconst 1, 1) := by decide +kernel
theorem dL_circle_18 : decode cL_circle 18 = .ok (.ireturn, 1) := by decide +kernel
theorem dL_circle_19 : decode cL_circle 19 = .ok (.astore 5, 2) := by decide +kernel
theorem dL_circle_21 : decode cL_circle 21 = .ok (.iconst 2, 1) := by decide +kernel
theorem dL_circle_22 : decode cL_circle 22 = .ok (.ireturn, 1) := by decide +kernel
theorem dL_circle_23 : decode cL_circle 23 = .ok (.iconst 0, 1) := by decide +kernel
theorem dL_circle_24 : decode cL_circle 24 = .ok (.ireturn, 1) := by decide +kernel
theorem dL_forget_0 : decode cL_forget 0 = .ok (.aload_n 2, 1) := by decide +kernel
theorem dL_forget_1 : decode cL_forget 1 = .ok (.iconst 0, 1) := by decide +kernel
theorem dL_forget_2 : decode cL_forget 2 = .ok (.aload_n 0, 1) := by decide +kernel
theorem dL_forget_3 : decode cL_forget 3 = .ok (.iload_n 1, 1) := by decide +kernel
theorem dL_forget_4 : decode cL_forget 4 = .ok (.invokevirtual 30, 3) := by decide +kernel
theorem dL_forget_7 : decode cL_forget 7 = .ok (.i2l, 1) := by decide +kernel
theorem dL_forget_8 : decode cL_forget 8 = .ok (.lastore, 1) := by decide +kernel
theorem dL_forget_9 : decode cL_forget 9 = .ok (.goto 6, 3) := by decide +kernel
theorem dL_forget_12 : decode cL_forget 12 = .ok (.astore_n 3, 1) := by decide +kernel
theorem dL_forget_13 : decode cL_forget 13 = .ok (.iconst 1, 1) := by decide +kernel
theorem dL_forget_14 : decode cL_forget 14 = .ok (.ireturn, 1) := by decide +kernel
theorem dL_forget_15 : decode cL_forget 15 = .ok (.iconst 0, 1) := by decide +kernel
theorem dL_forget_16 : decode cL_forget 16 = .ok (.ireturn, 1) := by decide +kernel
theorem dL_append_0 : decode cL_append 0 = .ok (.aload_n 2, 1) := by decide +kernel
theorem dL_append_1 : decode cL_append 1 = .ok (.iconst 0, 1) := by decide +kernel
theorem dL_append_2 : decode cL_append 2 = .ok (.aload_n 0, 1) := by decide +kernel
theorem dL_append_3 : decode cL_append 3 = .ok (.iload_n 1, 1) := by decide +kernel
theorem dL_append_4 : decode cL_append 4 = .ok (.invokevirtual 34, 3) := by decide +kernel
theorem dL_append_7 : decode cL_append 7 = .ok (.i2l, 1) := by decide +kernel
theorem dL_append_8 : decode cL_append 8 = .ok (.lastore, 1) := by decide +kernel
theorem dL_append_9 : decode cL_append 9 = .ok (.goto 9, 3) := by decide +kernel
theorem dL_append_12 : decode cL_append 12 = .ok (.astore_n 3, 1) := by decide +kernel
theorem dL_append_13 : decode cL_append 13 = .ok (.iconst 1, 1) := by decide +kernel
theorem dL_append_14 : decode cL_append 14 = .ok (.ireturn, 1) := by decide +kernel
theorem dL_append_15 : decode cL_append 15 = .ok (.astore_n 3, 1) := by decide +kernel
theorem dL_append_16 : decode cL_append 16 = .ok (.iconst 2, 1) := by decide +kernel
theorem dL_append_17 : decode cL_append 17 = .ok (.ireturn, 1) := by decide +kernel
theorem dL_append_18 : decode cL_append 18 = .ok (.iconst 0, 1) := by decide +kernel
theorem dL_append_19 : decode cL_append 19 = .ok (.ireturn, 1) := by decide +kernel
theorem dL_circleAt_0 : decode cL_circleAt 0 = .ok (.aload_n 3, 1) := by decide +kernel
theorem dL_circleAt_1 : decode cL_circleAt 1 = .ok (.iconst 0, 1) := by decide +kernel
theorem dL_circleAt_2 : decode cL_circleAt 2 = .ok (.aload_n 0, 1) := by decide +kernel
theorem dL_circleAt_3 : decode cL_circleAt 3 = .ok (.iload_n 1, 1) := by decide +kernel
theorem dL_circleAt_4 : decode cL_circleAt 4 = .ok (.iload_n 2, 1) := by decide +kernel
theorem dL_circleAt_5 : decode cL_circleAt 5 = .ok (.invokevirtual 39, 3) := by decide +kernel
theorem dL_circleAt_8 : decode cL_circleAt 8 = .ok (.i2l, 1) := by decide +kernel
theorem dL_circleAt_9 : decode cL_circleAt 9 = .ok (.lastore, 1) := by decide +kernel
theorem dL_circleAt_10 : decode cL_circleAt 10 = .ok (.goto 15, 3) := by decide +kernel
theorem dL_circleAt_13 : decode cL_circleAt 13 = .ok (.astore 4, 2) := by decide +kernel
theorem dL_circleAt_15 : decode cL_circleAt 15 = .ok (.iconst 1, 1) := by decide +kernel
theorem dL_circleAt_16 : decode cL_circleAt 16 = .ok (.ireturn, 1) := by decide +kernel
theorem dL_circleAt_17 : decode cL_circleAt 17 = .ok (.astore 4, 2) := by decide +kernel
theorem dL_circleAt_19 : decode cL_circleAt 19 = .ok (.iconst 2, 1) := by decide +kernel
theorem dL_circleAt_20 : decode cL_circleAt 20 = .ok (.ireturn, 1) := by decide +kernel
theorem dL_circleAt_21 : decode cL_circleAt 21 = .ok (.astore 4, 2) := by decide +kernel
theorem dL_circleAt_23 : decode cL_circleAt 23 = .ok (.iconst 3, 1) := by decide +kernel
theorem dL_circleAt_24 : decode cL_circleAt 24 = .ok (.ireturn, 1) := by decide +kernel
theorem dL_circleAt_25 : decode cL_circleAt 25 = .ok (.iconst 0, 1) := by decide +kernel
theorem dL_circleAt_26 : decode cL_circleAt 26 = .ok (.ireturn, 1) := by decide +kernel
theorem dL_keep_0 : decode cL_keep 0 = .ok (.aload_n 2, 1) := by decide +kernel
theorem dL_keep_1 : decode cL_keep 1 = .ok (.iconst 0, 1) := by decide +kernel
theorem dL_keep_2 : decode cL_keep 2 = .ok (.aload_n 0, 1) := by decide +kernel
theorem dL_keep_3 : decode cL_keep 3 = .ok (.iload_n 1, 1) := by decide +kernel
theorem dL_keep_4 : decode cL_keep 4 = .ok (.invokevirtual 42, 3) := by decide +kernel
theorem dL_keep_7 : decode cL_keep 7 = .ok (.i2l, 1) := by decide +kernel
theorem dL_keep_8 : decode cL_keep 8 = .ok (.lastore, 1) := by decide +kernel
theorem dL_keep_9 : decode cL_keep 9 = .ok (.goto 6, 3) := by decide +kernel
theorem dL_keep_12 : decode cL_keep 12 = .ok (.astore_n 3, 1) := by decide +kernel
theorem dL_keep_13 : decode cL_keep 13 = .ok (.iconst 1, 1) := by decide +kernel
theorem dL_keep_14 : decode cL_keep 14 = .ok (.ireturn, 1) := by decide +kernel
theorem dL_keep_15 : decode cL_keep 15 = .ok (.iconst 0, 1) := by decide +kernel
theorem dL_keep_16 : decode cL_keep 16 = .ok (.ireturn, 1) := by decide +kernel
theorem dL_goBack_0 : decode cL_goBack 0 = .ok (.aload_n 2, 1) := by decide +kernel
theorem dL_goBack_1 : decode cL_goBack 1 = .ok (.iconst 0, 1) := by decide +kernel
theorem dL_goBack_2 : decode cL_goBack 2 = .ok (.aload_n 0, 1) := by decide +kernel
theorem dL_goBack_3 : decode cL_goBack 3 = .ok (.iload_n 1, 1) := by decide +kernel
theorem dL_goBack_4 : decode cL_goBack 4 = .ok (.invokevirtual 45, 3) := by decide +kernel
theorem dL_goBack_7 : decode cL_goBack 7 = .ok (.i2l, 1) := by decide +kernel
theorem dL_goBack_8 : decode cL_goBack 8 = .ok (.lastore, 1) := by decide +kernel
theorem dL_goBack_9 : decode cL_goBack 9 = .ok (.goto 9, 3) := by decide +kernel
theorem dL_goBack_12 : decode cL_goBack 12 = .ok (.astore_n 3, 1) := by decide +kernel
theorem dL_goBack_13 : decode cL_goBack 13 = .ok (.iconst 1, 1) := by decide +kernel
theorem dL_goBack_14 : decode cL_goBack 14 = .ok (.ireturn, 1) := by decide +kernel
theorem dL_goBack_15 : decode cL_goBack 15 = .ok (.astore_n 3, 1) := by decide +kernel
theorem dL_goBack_16 : decode cL_goBack 16 = .ok (.iconst 2, 1) := by decide +kernel
theorem dL_goBack_17 : decode cL_goBack 17 = .ok (.ireturn, 1) := by decide +kernel
theorem dL_goBack_18 : decode cL_goBack 18 = .ok (.iconst 0, 1) := by decide +kernel
theorem dL_goBack_19 : decode cL_goBack 19 = .ok (.ireturn, 1) := by decide +kernel
theorem dL_undo_0 : decode cL_undo 0 = .ok (.aload_n 1, 1) := by decide +kernel
theorem dL_undo_1 : decode cL_undo 1 = .ok (.iconst 0, 1) := by decide +kernel
theorem dL_undo_2 : decode cL_undo 2 = .ok (.aload_n 0, 1) := by decide +kernel
theorem dL_undo_3 : decode cL_undo 3 = .ok (.invokevirtual 48, 3) := by decide +kernel
theorem dL_undo_6 : decode cL_undo 6 = .ok (.i2l, 1) := by decide +kernel
theorem dL_undo_7 : decode cL_undo 7 = .ok (.lastore, 1) := by decide +kernel
theorem dL_undo_8 : decode cL_undo 8 = .ok (.goto 6, 3) := by decide +kernel
theorem dL_undo_11 : decode cL_undo 11 = .ok (.astore_n 2, 1) := by decide +kernel
theorem dL_undo_12 : decode cL_undo 12 = .ok (.iconst 1, 1) := by decide +kernel
theorem dL_undo_13 : decode cL_undo 13 = .ok (.ireturn, 1) := by decide +kernel
theorem dL_undo_14 : decode cL_undo 14 = .ok (.iconst 0, 1) := by decide +kernel
theorem dL_undo_15 : decode cL_undo 15 = .ok (.ireturn, 1) := by decide +kernel
theorem dL_letterOf_0 : decode cL_letterOf 0 = .ok (.aload_n 3, 1) := by decide +kernel
theorem dL_letterOf_1 : decode cL_letterOf 1 = .ok (.iconst 0, 1) := by decide +kernel
theorem dL_letterOf_2 : decode cL_letterOf 2 = .ok (.aload_n 0, 1) := by decide +kernel
theorem dL_letterOf_3 : decode cL_letterOf 3 = .ok (.iload_n 1, 1) := by decide +kernel
theorem dL_letterOf_4 : decode cL_letterOf 4 = .ok (.iload_n 2, 1) := by decide +kernel
theorem dL_letterOf_5 : decode cL_letterOf 5 = .ok (.invokevirtual 52, 3) := by decide +kernel
theorem dL_letterOf_8 : decode cL_letterOf 8 = .ok (.i2l, 1) := by decide +kernel
theorem dL_letterOf_9 : decode cL_letterOf 9 = .ok (.lastore, 1) := by decide +kernel
theorem dL_letterOf_10 : decode cL_letterOf 10 = .ok (.goto 11, 3) := by decide +kernel
theorem dL_letterOf_13 : decode cL_letterOf 13 = .ok (.astore 4, 2) := by decide +kernel
theorem dL_letterOf_15 : decode cL_letterOf 15 = .ok (.iconst 1, 1) := by decide +kernel
theorem dL_letterOf_16 : decode cL_letterOf 16 = .ok (.ireturn, 1) := by decide +kernel
theorem dL_letterOf_17 : decode cL_letterOf 17 = .ok (.astore 4, 2) := by decide +kernel
theorem dL_letterOf_19 : decode cL_letterOf 19 = .ok (.iconst 2, 1) := by decide +kernel
theorem dL_letterOf_20 : decode cL_letterOf 20 = .ok (.ireturn, 1) := by decide +kernel
theorem dL_letterOf_21 : decode cL_letterOf 21 = .ok (.iconst 0, 1) := by decide +kernel
theorem dL_letterOf_22 : decode cL_letterOf 22 = .ok (.ireturn, 1) := by decide +kernel
theorem dL_pairOf_0 : decode cL_pairOf 0 = .ok (.aload 4, 2) := by decide +kernel
theorem dL_pairOf_2 : decode cL_pairOf 2 = .ok (.iconst 0, 1) := by decide +kernel
theorem dL_pairOf_3 : decode cL_pairOf 3 = .ok (.aload_n 0, 1) := by decide +kernel
theorem dL_pairOf_4 : decode cL_pairOf 4 = .ok (.iload_n 1, 1) := by decide +kernel
theorem dL_pairOf_5 : decode cL_pairOf 5 = .ok (.iload_n 2, 1) := by decide +kernel
theorem dL_pairOf_6 : decode cL_pairOf 6 = .ok (.iload_n 3, 1) := by decide +kernel
theorem dL_pairOf_7 : decode cL_pairOf 7 = .ok (.invokevirtual 55, 3) := by decide +kernel
theorem dL_pairOf_10 : decode cL_pairOf 10 = .ok (.i2l, 1) := by decide +kernel
theorem dL_pairOf_11 : decode cL_pairOf 11 = .ok (.lastore, 1) := by decide +kernel
theorem dL_pairOf_12 : decode cL_pairOf 12 = .ok (.goto 11, 3) := by decide +kernel
theorem dL_pairOf_15 : decode cL_pairOf 15 = .ok (.astore 5, 2) := by decide +kernel
theorem dL_pairOf_17 : decode cL_pairOf 17 = .ok (.iconst 1, 1) := by decide +kernel
theorem dL_pairOf_18 : decode cL_pairOf 18 = .ok (.ireturn, 1) := by decide +kernel
theorem dL_pairOf_19 : decode cL_pairOf 19 = .ok (.astore 5, 2) := by decide +kernel
theorem dL_pairOf_21 : decode cL_pairOf 21 = .ok (.iconst 2, 1) := by decide +kernel
theorem dL_pairOf_22 : decode cL_pairOf 22 = .ok (.ireturn, 1) := by decide +kernel
theorem dL_pairOf_23 : decode cL_pairOf 23 = .ok (.iconst 0, 1) := by decide +kernel
theorem dL_pairOf_24 : decode cL_pairOf 24 = .ok (.ireturn, 1) := by decide +kernel
theorem dL_shapesOf_0 : decode cL_shapesOf 0 = .ok (.aload 4, 2) := by decide +kernel
theorem dL_shapesOf_2 : decode cL_shapesOf 2 = .ok (.iconst 0, 1) := by decide +kernel
theorem dL_shapesOf_3 : decode cL_shapesOf 3 = .ok (.aload_n 0, 1) := by decide +kernel
theorem dL_shapesOf_4 : decode cL_shapesOf 4 = .ok (.iload_n 1, 1) := by decide +kernel
theorem dL_shapesOf_5 : decode cL_shapesOf 5 = .ok (.iload_n 2, 1) := by decide +kernel
theorem dL_shapesOf_6 : decode cL_shapesOf 6 = .ok (.iload_n 3, 1) := by decide +kernel
theorem dL_shapesOf_7 : decode cL_shapesOf 7 = .ok (.invokevirtual 58, 3) := by decide +kernel
theorem dL_shapesOf_10 : decode cL_shapesOf 10 = .ok (.i2l, 1) := by decide +kernel
theorem dL_shapesOf_11 : decode cL_shapesOf 11 = .ok (.lastore, 1) := by decide +kernel
theorem dL_shapesOf_12 : decode cL_shapesOf 12 = .ok (.goto 11, 3) := by decide +kernel
theorem dL_shapesOf_15 : decode cL_shapesOf 15 = .ok (.astore 5, 2) := by decide +kernel
theorem dL_shapesOf_17 : decode cL_shapesOf 17 = .ok (.iconst 1, 1) := by decide +kernel
theorem dL_shapesOf_18 : decode cL_shapesOf 18 = .ok (.ireturn, 1) := by decide +kernel
theorem dL_shapesOf_19 : decode cL_shapesOf 19 = .ok (.astore 5, 2) := by decide +kernel
theorem dL_shapesOf_21 : decode cL_shapesOf 21 = .ok (.iconst 2, 1) := by decide +kernel
theorem dL_shapesOf_22 : decode cL_shapesOf 22 = .ok (.ireturn, 1) := by decide +kernel
theorem dL_shapesOf_23 : decode cL_shapesOf 23 = .ok (.iconst 0, 1) := by decide +kernel
theorem dL_shapesOf_24 : decode cL_shapesOf 24 = .ok (.ireturn, 1) := by decide +kernel
theorem dL_lessonOf_0 : decode cL_lessonOf 0 = .ok (.aload_n 3, 1) := by decide +kernel
theorem dL_lessonOf_1 : decode cL_lessonOf 1 = .ok (.iconst 0, 1) := by decide +kernel
theorem dL_lessonOf_2 : decode cL_lessonOf 2 = .ok (.aload_n 0, 1) := by decide +kernel
theorem dL_lessonOf_3 : decode cL_lessonOf 3 = .ok (.iload_n 1, 1) := by decide +kernel
theorem dL_lessonOf_4 : decode cL_lessonOf 4 = .ok (.iload_n 2, 1) := by decide +kernel
theorem dL_lessonOf_5 : decode cL_lessonOf 5 = .ok (.invokevirtual 61, 3) := by decide +kernel
theorem dL_lessonOf_8 : decode cL_lessonOf 8 = .ok (.i2l, 1) := by decide +kernel
theorem dL_lessonOf_9 : decode cL_lessonOf 9 = .ok (.lastore, 1) := by decide +kernel
theorem dL_lessonOf_10 : decode cL_lessonOf 10 = .ok (.goto 11, 3) := by decide +kernel
theorem dL_lessonOf_13 : decode cL_lessonOf 13 = .ok (.astore 4, 2) := by decide +kernel
theorem dL_lessonOf_15 : decode cL_lessonOf 15 = .ok (.iconst 1, 1) := by decide +kernel
theorem dL_lessonOf_16 : decode cL_lessonOf 16 = .ok (.ireturn, 1) := by decide +kernel
theorem dL_lessonOf_17 : decode cL_lessonOf 17 = .ok (.astore 4, 2) := by decide +kernel
theorem dL_lessonOf_19 : decode cL_lessonOf 19 = .ok (.iconst 2, 1) := by decide +kernel
theorem dL_lessonOf_20 : decode cL_lessonOf 20 = .ok (.ireturn, 1) := by decide +kernel
theorem dL_lessonOf_21 : decode cL_lessonOf 21 = .ok (.iconst 0, 1) := by decide +kernel
theorem dL_lessonOf_22 : decode cL_lessonOf 22 = .ok (.ireturn, 1) := by decide +kernel
theorem dL_count_0 : decode cL_count 0 = .ok (.aload_n 2, 1) := by decide +kernel
theorem dL_count_1 : decode cL_count 1 = .ok (.iconst 0, 1) := by decide +kernel
theorem dL_count_2 : decode cL_count 2 = .ok (.aload_n 0, 1) := by decide +kernel
theorem dL_count_3 : decode cL_count 3 = .ok (.iload_n 1, 1) := by decide +kernel
theorem dL_count_4 : decode cL_count 4 = .ok (.invokevirtual 64, 3) := by decide +kernel
theorem dL_count_7 : decode cL_count 7 = .ok (.i2l, 1) := by decide +kernel
theorem dL_count_8 : decode cL_count 8 = .ok (.lastore, 1) := by decide +kernel
theorem dL_count_9 : decode cL_count 9 = .ok (.goto 6, 3) := by decide +kernel
theorem dL_count_12 : decode cL_count 12 = .ok (.astore_n 3, 1) := by decide +kernel
theorem dL_count_13 : decode cL_count 13 = .ok (.iconst 1, 1) := by decide +kernel
theorem dL_count_14 : decode cL_count 14 = .ok (.ireturn, 1) := by decide +kernel
theorem dL_count_15 : decode cL_count 15 = .ok (.iconst 0, 1) := by decide +kernel
theorem dL_count_16 : decode cL_count 16 = .ok (.ireturn, 1) := by decide +kernel
theorem dL_setting_0 : decode cL_setting 0 = .ok (.aload_n 2, 1) := by decide +kernel
theorem dL_setting_1 : decode cL_setting 1 = .ok (.iconst 0, 1) := by decide +kernel
theorem dL_setting_2 : decode cL_setting 2 = .ok (.aload_n 0, 1) := by decide +kernel
theorem dL_setting_3 : decode cL_setting 3 = .ok (.iload_n 1, 1) := by decide +kernel
theorem dL_setting_4 : decode cL_setting 4 = .ok (.invokevirtual 67, 3) := by decide +kernel
theorem dL_setting_7 : decode cL_setting 7 = .ok (.i2l, 1) := by decide +kernel
theorem dL_setting_8 : decode cL_setting 8 = .ok (.lastore, 1) := by decide +kernel
theorem dL_setting_9 : decode cL_setting 9 = .ok (.goto 6, 3) := by decide +kernel
theorem dL_setting_12 : decode cL_setting 12 = .ok (.astore_n 3, 1) := by decide +kernel
theorem dL_setting_13 : decode cL_setting 13 = .ok (.iconst 1, 1) := by decide +kernel
theorem dL_setting_14 : decode cL_setting 14 = .ok (.ireturn, 1) := by decide +kernel
theorem dL_setting_15 : decode cL_setting 15 = .ok (.iconst 0, 1) := by decide +kernel
theorem dL_setting_16 : decode cL_setting 16 = .ok (.ireturn, 1) := by decide +kernel
theorem dL_text_0 : decode cL_text 0 = .ok (.aload_n 2, 1) := by decide +kernel
theorem dL_text_1 : decode cL_text 1 = .ok (.iconst 0, 1) := by decide +kernel
theorem dL_text_2 : decode cL_text 2 = .ok (.aload_n 0, 1) := by decide +kernel
theorem dL_text_3 : decode cL_text 3 = .ok (.iload_n 1, 1) := by decide +kernel
theorem dL_text_4 : decode cL_text 4 = .ok (.invokevirtual 70, 3) := by decide +kernel
theorem dL_text_7 : decode cL_text 7 = .ok (.i2l, 1) := by decide +kernel
theorem dL_text_8 : decode cL_text 8 = .ok (.lastore, 1) := by decide +kernel
theorem dL_text_9 : decode cL_text 9 = .ok (.goto 6, 3) := by decide +kernel
theorem dL_text_12 : decode cL_text 12 = .ok (.astore_n 3, 1) := by decide +kernel
theorem dL_text_13 : decode cL_text 13 = .ok (.iconst 1, 1) := by decide +kernel
theorem dL_text_14 : decode cL_text 14 = .ok (.ireturn, 1) := by decide +kernel
theorem dL_text_15 : decode cL_text 15 = .ok (.iconst 0, 1) := by decide +kernel
theorem dL_text_16 : decode cL_text 16 = .ok (.ireturn, 1) := by decide +kernel
theorem dL_ifCircled_0 : decode cL_ifCircled 0 = .ok (.aload 4, 2) := by decide +kernel
theorem dL_ifCircled_2 : decode cL_ifCircled 2 = .ok (.iconst 0, 1) := by decide +kernel
theorem dL_ifCircled_3 : decode cL_ifCircled 3 = .ok (.aload_n 0, 1) := by decide +kernel
theorem dL_ifCircled_4 : decode cL_ifCircled 4 = .ok (.iload_n 1, 1) := by decide +kernel
theorem dL_ifCircled_5 : decode cL_ifCircled 5 = .ok (.iload_n 2, 1) := by decide +kernel
theorem dL_ifCircled_6 : decode cL_ifCircled 6 = .ok (.iload_n 3, 1) := by decide +kernel
theorem dL_ifCircled_7 : decode cL_ifCircled 7 = .ok (.invokevirtual 73, 3) := by decide +kernel
theorem dL_ifCircled_10 : decode cL_ifCircled 10 = .ok (.i2l, 1) := by decide +kernel
theorem dL_ifCircled_11 : decode cL_ifCircled 11 = .ok (.lastore, 1) := by decide +kernel
theorem dL_ifCircled_12 : decode cL_ifCircled 12 = .ok (.goto 11, 3) := by decide +kernel
theorem dL_ifCircled_15 : decode cL_ifCircled 15 = .ok (.astore 5, 2) := by decide +kernel
theorem dL_ifCircled_17 : decode cL_ifCircled 17 = .ok (.iconst 1, 1) := by decide +kernel
theorem dL_ifCircled_18 : decode cL_ifCircled 18 = .ok (.ireturn, 1) := by decide +kernel
theorem dL_ifCircled_19 : decode cL_ifCircled 19 = .ok (.astore 5, 2) := by decide +kernel
theorem dL_ifCircled_21 : decode cL_ifCircled 21 = .ok (.iconst 2, 1) := by decide +kernel
theorem dL_ifCircled_22 : decode cL_ifCircled 22 = .ok (.ireturn, 1) := by decide +kernel
theorem dL_ifCircled_23 : decode cL_ifCircled 23 = .ok (.iconst 0, 1) := by decide +kernel
theorem dL_ifCircled_24 : decode cL_ifCircled 24 = .ok (.ireturn, 1) := by decide +kernel
theorem dL_ifForgotten_0 : decode cL_ifForgotten 0 = .ok (.aload_n 2, 1) := by decide +kernel
theorem dL_ifForgotten_1 : decode cL_ifForgotten 1 = .ok (.iconst 0, 1) := by decide +kernel
theorem dL_ifForgotten_2 : decode cL_ifForgotten 2 = .ok (.aload_n 0, 1) := by decide +kernel
theorem dL_ifForgotten_3 : decode cL_ifForgotten 3 = .ok (.iload_n 1, 1) := by decide +kernel
theorem dL_ifForgotten_4 : decode cL_ifForgotten 4 = .ok (.invokevirtual 76, 3) := by decide +kernel
theorem dL_ifForgotten_7 : decode cL_ifForgotten 7 = .ok (.i2l, 1) := by decide +kernel
theorem dL_ifForgotten_8 : decode cL_ifForgotten 8 = .ok (.lastore, 1) := by decide +kernel
theorem dL_ifForgotten_9 : decode cL_ifForgotten 9 = .ok (.goto 6, 3) := by decide +kernel
theorem dL_ifForgotten_12 : decode cL_ifForgotten 12 = .ok (.astore_n 3, 1) := by decide +kernel
theorem dL_ifForgotten_13 : decode cL_ifForgotten 13 = .ok (.iconst 1, 1) := by decide +kernel
theorem dL_ifForgotten_14 : decode cL_ifForgotten 14 = .ok (.ireturn, 1) := by decide +kernel
theorem dL_ifForgotten_15 : decode cL_ifForgotten 15 = .ok (.iconst 0, 1) := by decide +kernel
theorem dL_ifForgotten_16 : decode cL_ifForgotten 16 = .ok (.ireturn, 1) := by decide +kernel
theorem dL_law_0 : decode cL_law 0 = .ok (.new 8, 3) := by decide +kernel
theorem dL_law_3 : decode cL_law 3 = .ok (.dup, 1) := by decide +kernel
theorem dL_law_4 : decode cL_law 4 = .ok (.invokespecial 79, 3) := by decide +kernel
theorem dL_law_7 : decode cL_law 7 = .ok (.astore_n 1, 1) := by decide +kernel
theorem dL_law_8 : decode cL_law 8 = .ok (.new 80, 3) := by decide +kernel
theorem dL_law_11 : decode cL_law 11 = .ok (.dup, 1) := by decide +kernel
theorem dL_law_12 : decode cL_law 12 = .ok (.invokespecial 82, 3) := by decide +kernel
theorem dL_law_15 : decode cL_law 15 = .ok (.astore_n 2, 1) := by decide +kernel
theorem dL_law_16 : decode cL_law 16 = .ok (.iconst 1, 1) := by decide +kernel
theorem dL_law_17 : decode cL_law 17 = .ok (.newarray .long, 2) := by decide +kernel
theorem dL_law_19 : decode cL_law 19 = .ok (.astore_n 3, 1) := by decide +kernel
theorem dL_law_20 : decode cL_law 20 = .ok (.iconst 0, 1) := by decide +kernel
theorem dL_law_21 : decode cL_law 21 = .ok (.istore 4, 2) := by decide +kernel
theorem dL_law_23 : decode cL_law 23 = .ok (.iload 4, 2) := by decide +kernel
theorem dL_law_25 : decode cL_law 25 = .ok (.aload_n 0, 1) := by decide +kernel
theorem dL_law_26 : decode cL_law 26 = .ok (.arraylength, 1) := by decide +kernel
theorem dL_law_27 : decode cL_law 27 = .ok (.iconst 4, 1) := by decide +kernel
theorem dL_law_28 : decode cL_law 28 = .ok (.isub, 1) := by decide +kernel
theorem dL_law_29 : decode cL_law 29 = .ok (.if_icmp .gt 1535, 3) := by decide +kernel
theorem dL_law_32 : decode cL_law 32 = .ok (.aload_n 0, 1) := by decide +kernel
theorem dL_law_33 : decode cL_law 33 = .ok (.iload 4, 2) := by decide +kernel
theorem dL_law_35 : decode cL_law 35 = .ok (.iaload, 1) := by decide +kernel
theorem dL_law_36 : decode cL_law 36 = .ok (.bipush 31, 2) := by decide +kernel
theorem dL_law_38 : decode cL_law 38 = .ok (.iand, 1) := by decide +kernel
theorem dL_law_39 : decode cL_law 39 = .ok (.tableswitch 1519 0 24 #[113, 181, 261, 341, 409, 489, 545, 601, 614, 627, 695, 751, 807, 851, 919, 999, 1079, 1147, 1203, 1259, 1315, 1395, 1451, 1464, 1505], 113) := by decide +kernel
theorem dL_law_152 : decode cL_law 152 = .ok (.aload_n 1, 1) := by decide +kernel
theorem dL_law_153 : decode cL_law 153 = .ok (.aload_n 0, 1) := by decide +kernel
theorem dL_law_154 : decode cL_law 154 = .ok (.iload 4, 2) := by decide +kernel
theorem dL_law_156 : decode cL_law 156 = .ok (.iconst 1, 1) := by decide +kernel
theorem dL_law_157 : decode cL_law 157 = .ok (.iadd, 1) := by decide +kernel
theorem dL_law_158 : decode cL_law 158 = .ok (.iaload, 1) := by decide +kernel
theorem dL_law_159 : decode cL_law 159 = .ok (.aload_n 0, 1) := by decide +kernel
theorem dL_law_160 : decode cL_law 160 = .ok (.iload 4, 2) := by decide +kernel
theorem dL_law_162 : decode cL_law 162 = .ok (.iconst 2, 1) := by decide +kernel
theorem dL_law_163 : decode cL_law 163 = .ok (.iadd, 1) := by decide +kernel
theorem dL_law_164 : decode cL_law 164 = .ok (.iaload, 1) := by decide +kernel
theorem dL_law_165 : decode cL_law 165 = .ok (.aload_n 3, 1) := by decide +kernel
theorem dL_law_166 : decode cL_law 166 = .ok (.invokestatic 83, 3) := by decide +kernel
theorem dL_law_169 : decode cL_law 169 = .ok (.istore 5, 2) := by decide +kernel
theorem dL_law_171 : decode cL_law 171 = .ok (.aload_n 2, 1) := by decide +kernel
theorem dL_law_172 : decode cL_law 172 = .ok (.aload_n 0, 1) := by decide +kernel
theorem dL_law_173 : decode cL_law 173 = .ok (.iload 4, 2) := by decide +kernel
theorem dL_law_175 : decode cL_law 175 = .ok (.iconst 1, 1) := by decide +kernel
theorem dL_law_176 : decode cL_law 176 = .ok (.iadd, 1) := by decide +kernel
theorem dL_law_177 : decode cL_law 177 = .ok (.iaload, 1) := by decide +kernel
theorem dL_law_178 : decode cL_law 178 = .ok (.aload_n 0, 1) := by decide +kernel
theorem dL_law_179 : decode cL_law 179 = .ok (.iload 4, 2) := by decide +kernel
theorem dL_law_181 : decode cL_law 181 = .ok (.iconst 2, 1) := by decide +kernel
theorem dL_law_182 : decode cL_law 182 = .ok (.iadd, 1) := by decide +kernel
theorem dL_law_183 : decode cL_law 183 = .ok (.iaload, 1) := by decide +kernel
theorem dL_law_184 : decode cL_law 184 = .ok (.invokevirtual 88, 3) := by decide +kernel
theorem dL_law_187 : decode cL_law 187 = .ok (.istore 6, 2) := by decide +kernel
theorem dL_law_189 : decode cL_law 189 = .ok (.aload_n 2, 1) := by decide +kernel
theorem dL_law_190 : decode cL_law 190 = .ok (.invokevirtual 89, 3) := by decide +kernel
theorem dL_law_193 : decode cL_law 193 = .ok (.iload 5, 2) := by decide +kernel
theorem dL_law_195 : decode cL_law 195 = .ok (.if_icmp .eq 5, 3) := by decide +kernel
theorem dL_law_198 : decode cL_law 198 = .ok (.iconst 0, 1) := by decide +kernel
theorem dL_law_199 : decode cL_law 199 = .ok (.ireturn, 1) := by decide +kernel
theorem dL_law_200 : decode cL_law 200 = .ok (.iload 5, 2) := by decide +kernel
theorem dL_law_202 : decode cL_law 202 = .ok (.ifCond .ne 15, 3) := by decide +kernel
theorem dL_law_205 : decode cL_law 205 = .ok (.aload_n 3, 1) := by decide +kernel
theorem dL_law_206 : decode cL_law 206 = .ok (.iconst 0, 1) := by decide +kernel
theorem dL_law_207 : decode cL_law 207 = .ok (.laload, 1) := by decide +kernel
theorem dL_law_208 : decode cL_law 208 = .ok (.iload 6, 2) := by decide +kernel
theorem dL_law_210 : decode cL_law 210 = .ok (.i2l, 1) := by decide +kernel
theorem dL_law_211 : decode cL_law 211 = .ok (.lcmp, 1) := by decide +kernel
theorem dL_law_212 : decode cL_law 212 = .ok (.ifCond .eq 5, 3) := by decide +kernel
theorem dL_law_215 : decode cL_law 215 = .ok (.iconst 0, 1) := by decide +kernel
theorem dL_law_216 : decode cL_law 216 = .ok (.ireturn, 1) := by decide +kernel
theorem dL_law_217 : decode cL_law 217 = .ok (.goto 1341, 3) := by decide +kernel
theorem dL_law_220 : decode cL_law 220 = .ok (.aload_n 1, 1) := by decide +kernel
theorem dL_law_221 : decode cL_law 221 = .ok (.aload_n 0, 1) := by decide +kernel
theorem dL_law_222 : decode cL_law 222 = .ok (.iload 4, 2) := by decide +kernel
theorem dL_law_224 : decode cL_law 224 = .ok (.iconst 1, 1) := by decide +kernel
theorem dL_law_225 : decode cL_law 225 = .ok (.iadd, 1) := by decide +kernel
theorem dL_law_226 : decode cL_law 226 = .ok (.iaload, 1) := by decide +kernel
theorem dL_law_227 : decode cL_law 227 = .ok (.aload_n 0, 1) := by decide +kernel
theorem dL_law_228 : decode cL_law 228 = .ok (.iload 4, 2) := by decide +kernel
theorem dL_law_230 : decode cL_law 230 = .ok (.iconst 2, 1) := by decide +kernel
theorem dL_law_231 : decode cL_law 231 = .ok (.iadd, 1) := by decide +kernel
theorem dL_law_232 : decode cL_law 232 = .ok (.iaload, 1) := by decide +kernel
theorem dL_law_233 : decode cL_law 233 = .ok (.aload_n 0, 1) := by decide +kernel
theorem dL_law_234 : decode cL_law 234 = .ok (.iload 4, 2) := by decide +kernel
theorem dL_law_236 : decode cL_law 236 = .ok (.iconst 3, 1) := by decide +kernel
theorem dL_law_237 : decode cL_law 237 = .ok (.iadd, 1) := by decide +kernel
theorem dL_law_238 : decode cL_law 238 = .ok (.iaload, 1) := by decide +kernel
theorem dL_law_239 : decode cL_law 239 = .ok (.aload_n 3, 1) := by decide +kernel
theorem dL_law_240 : decode cL_law 240 = .ok (.invokestatic 92, 3) := by decide +kernel
theorem dL_law_243 : decode cL_law 243 = .ok (.istore 5, 2) := by decide +kernel
theorem dL_law_245 : decode cL_law 245 = .ok (.aload_n 2, 1) := by decide +kernel
theorem dL_law_246 : decode cL_law 246 = .ok (.aload_n 0, 1) := by decide +kernel
theorem dL_law_247 : decode cL_law 247 = .ok (.iload 4, 2) := by decide +kernel
theorem dL_law_249 : decode cL_law 249 = .ok (.iconst 1, 1) := by decide +kernel
theorem dL_law_250 : decode cL_law 250 = .ok (.iadd, 1) := by decide +kernel
theorem dL_law_251 : decode cL_law 251 = .ok (.iaload, 1) := by decide +kernel
theorem dL_law_252 : decode cL_law 252 = .ok (.aload_n 0, 1) := by decide +kernel
theorem dL_law_253 : decode cL_law 253 = .ok (.iload 4, 2) := by decide +kernel
theorem dL_law_255 : decode cL_law 255 = .ok (.iconst 2, 1) := by decide +kernel
theorem dL_law_256 : decode cL_law 256 = .ok (.iadd, 1) := by decide +kernel
theorem dL_law_257 : decode cL_law 257 = .ok (.iaload, 1) := by decide +kernel
theorem dL_law_258 : decode cL_law 258 = .ok (.aload_n 0, 1) := by decide +kernel
theorem dL_law_259 : decode cL_law 259 = .ok (.iload 4, 2) := by decide +kernel
theorem dL_law_261 : decode cL_law 261 = .ok (.iconst 3, 1) := by decide +kernel
theorem dL_law_262 : decode cL_law 262 = .ok (.iadd, 1) := by decide +kernel
theorem dL_law_263 : decode cL_law 263 = .ok (.iaload, 1) := by decide +kernel
theorem dL_law_264 : decode cL_law 264 = .ok (.invokevirtual 95, 3) := by decide +kernel
theorem dL_law_267 : decode cL_law 267 = .ok (.istore 6, 2) := by decide +kernel
theorem dL_law_269 : decode cL_law 269 = .ok (.aload_n 2, 1) := by decide +kernel
theorem dL_law_270 : decode cL_law 270 = .ok (.invokevirtual 89, 3) := by decide +kernel
theorem dL_law_273 : decode cL_law 273 = .ok (.iload 5, 2) := by decide +kernel
theorem dL_law_275 : decode cL_law 275 = .ok (.if_icmp .eq 5, 3) := by decide +kernel
theorem dL_law_278 : decode cL_law 278 = .ok (.iconst 0, 1) := by decide +kernel
theorem dL_law_279 : decode cL_law 279 = .ok (.ireturn, 1) := by decide +kernel
theorem dL_law_280 : decode cL_law 280 = .ok (.iload 5, 2) := by decide +kernel
theorem dL_law_282 : decode cL_law 282 = .ok (.ifCond .ne 15, 3) := by decide +kernel
theorem dL_law_285 : decode cL_law 285 = .ok (.aload_n 3, 1) := by decide +kernel
theorem dL_law_286 : decode cL_law 286 = .ok (.iconst 0, 1) := by decide +kernel
theorem dL_law_287 : decode cL_law 287 = .ok (.laload, 1) := by decide +kernel
theorem dL_law_288 : decode cL_law 288 = .ok (.iload 6, 2) := by decide +kernel
theorem dL_law_290 : decode cL_law 290 = .ok (.i2l, 1) := by decide +kernel
theorem dL_law_291 : decode cL_law 291 = .ok (.lcmp, 1) := by decide +kernel
theorem dL_law_292 : decode cL_law 292 = .ok (.ifCond .eq 5, 3) := by decide +kernel
theorem dL_law_295 : decode cL_law 295 = .ok (.iconst 0, 1) := by decide +kernel
theorem dL_law_296 : decode cL_law 296 = .ok (.ireturn, 1) := by decide +kernel
theorem dL_law_297 : decode cL_law 297 = .ok (.goto 1261, 3) := by decide +kernel
theorem dL_law_300 : decode cL_law 300 = .ok (.aload_n 1, 1) := by decide +kernel
theorem dL_law_301 : decode cL_law 301 = .ok (.aload_n 0, 1) := by decide +kernel
theorem dL_law_302 : decode cL_law 302 = .ok (.iload 4, 2) := by decide +kernel
theorem dL_law_304 : decode cL_law 304 = .ok (.iconst 1, 1) := by decide +kernel
theorem dL_law_305 : decode cL_law 305 = .ok (.iadd, 1) := by decide +kernel
theorem dL_law_306 : decode cL_law 306 = .ok (.iaload, 1) := by decide +kernel
theorem dL_law_307 : decode cL_law 307 = .ok (.aload_n 0, 1) := by decide +kernel
theorem dL_law_308 : decode cL_law 308 = .ok (.iload 4, 2) := by decide +kernel
theorem dL_law_310 : decode cL_law 310 = .ok (.iconst 2, 1) := by decide +kernel
theorem dL_law_311 : decode cL_law 311 = .ok (.iadd, 1) := by decide +kernel
theorem dL_law_312 : decode cL_law 312 = .ok (.iaload, 1) := by decide +kernel
theorem dL_law_313 : decode cL_law 313 = .ok (.aload_n 0, 1) := by decide +kernel
theorem dL_law_314 : decode cL_law 314 = .ok (.iload 4, 2) := by decide +kernel
theorem dL_law_316 : decode cL_law 316 = .ok (.iconst 3, 1) := by decide +kernel
theorem dL_law_317 : decode cL_law 317 = .ok (.iadd, 1) := by decide +kernel
theorem dL_law_318 : decode cL_law 318 = .ok (.iaload, 1) := by decide +kernel
theorem dL_law_319 : decode cL_law 319 = .ok (.aload_n 3, 1) := by decide +kernel
theorem dL_law_320 : decode cL_law 320 = .ok (.invokestatic 96, 3) := by decide +kernel
theorem dL_law_323 : decode cL_law 323 = .ok (.istore 5, 2) := by decide +kernel
theorem dL_law_325 : decode cL_law 325 = .ok (.aload_n 2, 1) := by decide +kernel
theorem dL_law_326 : decode cL_law 326 = .ok (.aload_n 0, 1) := by decide +kernel
theorem dL_law_327 : decode cL_law 327 = .ok (.iload 4, 2) := by decide +kernel
theorem dL_law_329 : decode cL_law 329 = .ok (.iconst 1, 1) := by decide +kernel
theorem dL_law_330 : decode cL_law 330 = .ok (.iadd, 1) := by decide +kernel
theorem dL_law_331 : decode cL_law 331 = .ok (.iaload, 1) := by decide +kernel
theorem dL_law_332 : decode cL_law 332 = .ok (.aload_n 0, 1) := by decide +kernel
theorem dL_law_333 : decode cL_law 333 = .ok (.iload 4, 2) := by decide +kernel
theorem dL_law_335 : decode cL_law 335 = .ok (.iconst 2, 1) := by decide +kernel
theorem dL_law_336 : decode cL_law 336 = .ok (.iadd, 1) := by decide +kernel
theorem dL_law_337 : decode cL_law 337 = .ok (.iaload, 1) := by decide +kernel
theorem dL_law_338 : decode cL_law 338 = .ok (.aload_n 0, 1) := by decide +kernel
theorem dL_law_339 : decode cL_law 339 = .ok (.iload 4, 2) := by decide +kernel
theorem dL_law_341 : decode cL_law 341 = .ok (.iconst 3, 1) := by decide +kernel
theorem dL_law_342 : decode cL_law 342 = .ok (.iadd, 1) := by decide +kernel
theorem dL_law_343 : decode cL_law 343 = .ok (.iaload, 1) := by decide +kernel
theorem dL_law_344 : decode cL_law 344 = .ok (.invokevirtual 98, 3) := by decide +kernel
theorem dL_law_347 : decode cL_law 347 = .ok (.istore 6, 2) := by decide +kernel
theorem dL_law_349 : decode cL_law 349 = .ok (.aload_n 2, 1) := by decide +kernel
theorem dL_law_350 : decode cL_law 350 = .ok (.invokevirtual 89, 3) := by decide +kernel
theorem dL_law_353 : decode cL_law 353 = .ok (.iload 5, 2) := by decide +kernel
theorem dL_law_355 : decode cL_law 355 = .ok (.if_icmp .eq 5, 3) := by decide +kernel
theorem dL_law_358 : decode cL_law 358 = .ok (.iconst 0, 1) := by decide +kernel
theorem dL_law_359 : decode cL_law 359 = .ok (.ireturn, 1) := by decide +kernel
theorem dL_law_360 : decode cL_law 360 = .ok (.iload 5, 2) := by decide +kernel
theorem dL_law_362 : decode cL_law 362 = .ok (.ifCond .ne 15, 3) := by decide +kernel
theorem dL_law_365 : decode cL_law 365 = .ok (.aload_n 3, 1) := by decide +kernel
theorem dL_law_366 : decode cL_law 366 = .ok (.iconst 0, 1) := by decide +kernel
theorem dL_law_367 : decode cL_law 367 = .ok (.laload, 1) := by decide +kernel
theorem dL_law_368 : decode cL_law 368 = .ok (.iload 6, 2) := by decide +kernel
theorem dL_law_370 : decode cL_law 370 = .ok (.i2l, 1) := by decide +kernel
theorem dL_law_371 : decode cL_law 371 = .ok (.lcmp, 1) := by decide +kernel
theorem dL_law_372 : decode cL_law 372 = .ok (.ifCond .eq 5, 3) := by decide +kernel
theorem dL_law_375 : decode cL_law 375 = .ok (.iconst 0, 1) := by decide +kernel
theorem dL_law_376 : decode cL_law 376 = .ok (.ireturn, 1) := by decide +kernel
theorem dL_law_377 : decode cL_law 377 = .ok (.goto 1181, 3) := by decide +kernel
theorem dL_law_380 : decode cL_law 380 = .ok (.aload_n 1, 1) := by decide +kernel
theorem dL_law_381 : decode cL_law 381 = .ok (.aload_n 0, 1) := by decide +kernel
theorem dL_law_382 : decode cL_law 382 = .ok (.iload 4, 2) := by decide +kernel
theorem dL_law_384 : decode cL_law 384 = .ok (.iconst 1, 1) := by decide +kernel
theorem dL_law_385 : decode cL_law 385 = .ok (.iadd, 1) := by decide +kernel
theorem dL_law_386 : decode cL_law 386 = .ok (.iaload, 1) := by decide +kernel
theorem dL_law_387 : decode cL_law 387 = .ok (.aload_n 0, 1) := by decide +kernel
theorem dL_law_388 : decode cL_law 388 = .ok (.iload 4, 2) := by decide +kernel
theorem dL_law_390 : decode cL_law 390 = .ok (.iconst 2, 1) := by decide +kernel
theorem dL_law_391 : decode cL_law 391 = .ok (.iadd, 1) := by decide +kernel
theorem dL_law_392 : decode cL_law 392 = .ok (.iaload, 1) := by decide +kernel
theorem dL_law_393 : decode cL_law 393 = .ok (.aload_n 3, 1) := by decide +kernel
theorem dL_law_394 : decode cL_law 394 = .ok (.invokestatic 99, 3) := by decide +kernel
theorem dL_law_397 : decode cL_law 397 = .ok (.istore 5, 2) := by decide +kernel
theorem dL_law_399 : decode cL_law 399 = .ok (.aload_n 2, 1) := by decide +kernel
theorem dL_law_400 : decode cL_law 400 = .ok (.aload_n 0, 1) := by decide +kernel
theorem dL_law_401 : decode cL_law 401 = .ok (.iload 4, 2) := by decide +kernel
theorem dL_law_403 : decode cL_law 403 = .ok (.iconst 1, 1) := by decide +kernel
theorem dL_law_404 : decode cL_law 404 = .ok (.iadd, 1) := by decide +kernel
theorem dL_law_405 : decode cL_law 405 = .ok (.iaload, 1) := by decide +kernel
theorem dL_law_406 : decode cL_law 406 = .ok (.aload_n 0, 1) := by decide +kernel
theorem dL_law_407 : decode cL_law 407 = .ok (.iload 4, 2) := by decide +kernel
theorem dL_law_409 : decode cL_law 409 = .ok (.iconst 2, 1) := by decide +kernel
theorem dL_law_410 : decode cL_law 410 = .ok (.iadd, 1) := by decide +kernel
theorem dL_law_411 : decode cL_law 411 = .ok (.iaload, 1) := by decide +kernel
theorem dL_law_412 : decode cL_law 412 = .ok (.invokevirtual 101, 3) := by decide +kernel
theorem dL_law_415 : decode cL_law 415 = .ok (.istore 6, 2) := by decide +kernel
theorem dL_law_417 : decode cL_law 417 = .ok (.aload_n 2, 1) := by decide +kernel
theorem dL_law_418 : decode cL_law 418 = .ok (.invokevirtual 89, 3) := by decide +kernel
theorem dL_law_421 : decode cL_law 421 = .ok (.iload 5, 2) := by decide +kernel
theorem dL_law_423 : decode cL_law 423 = .ok (.if_icmp .eq 5, 3) := by decide +kernel
theorem dL_law_426 : decode cL_law 426 = .ok (.iconst 0, 1) := by decide +kernel
theorem dL_law_427 : decode cL_law 427 = .ok (.ireturn, 1) := by decide +kernel
theorem dL_law_428 : decode cL_law 428 = .ok (.iload 5, 2) := by decide +kernel
theorem dL_law_430 : decode cL_law 430 = .ok (.ifCond .ne 15, 3) := by decide +kernel
theorem dL_law_433 : decode cL_law 433 = .ok (.aload_n 3, 1) := by decide +kernel
theorem dL_law_434 : decode cL_law 434 = .ok (.iconst 0, 1) := by decide +kernel
theorem dL_law_435 : decode cL_law 435 = .ok (.laload, 1) := by decide +kernel
theorem dL_law_436 : decode cL_law 436 = .ok (.iload 6, 2) := by decide +kernel
theorem dL_law_438 : decode cL_law 438 = .ok (.i2l, 1) := by decide +kernel
theorem dL_law_439 : decode cL_law 439 = .ok (.lcmp, 1) := by decide +kernel
theorem dL_law_440 : decode cL_law 440 = .ok (.ifCond .eq 5, 3) := by decide +kernel
theorem dL_law_443 : decode cL_law 443 = .ok (.iconst 0, 1) := by decide +kernel
theorem dL_law_444 : decode cL_law 444 = .ok (.ireturn, 1) := by decide +kernel
theorem dL_law_445 : decode cL_law 445 = .ok (.goto 1113, 3) := by decide +kernel
theorem dL_law_448 : decode cL_law 448 = .ok (.aload_n 1, 1) := by decide +kernel
theorem dL_law_449 : decode cL_law 449 = .ok (.aload_n 0, 1) := by decide +kernel
theorem dL_law_450 : decode cL_law 450 = .ok (.iload 4, 2) := by decide +kernel
theorem dL_law_452 : decode cL_law 452 = .ok (.iconst 1, 1) := by decide +kernel
theorem dL_law_453 : decode cL_law 453 = .ok (.iadd, 1) := by decide +kernel
theorem dL_law_454 : decode cL_law 454 = .ok (.iaload, 1) := by decide +kernel
theorem dL_law_455 : decode cL_law 455 = .ok (.aload_n 0, 1) := by decide +kernel
theorem dL_law_456 : decode cL_law 456 = .ok (.iload 4, 2) := by decide +kernel
theorem dL_law_458 : decode cL_law 458 = .ok (.iconst 2, 1) := by decide +kernel
theorem dL_law_459 : decode cL_law 459 = .ok (.iadd, 1) := by decide +kernel
theorem dL_law_460 : decode cL_law 460 = .ok (.iaload, 1) := by decide +kernel
theorem dL_law_461 : decode cL_law 461 = .ok (.aload_n 0, 1) := by decide +kernel
theorem dL_law_462 : decode cL_law 462 = .ok (.iload 4, 2) := by decide +kernel
theorem dL_law_464 : decode cL_law 464 = .ok (.iconst 3, 1) := by decide +kernel
theorem dL_law_465 : decode cL_law 465 = .ok (.iadd, 1) := by decide +kernel
theorem dL_law_466 : decode cL_law 466 = .ok (.iaload, 1) := by decide +kernel
theorem dL_law_467 : decode cL_law 467 = .ok (.aload_n 3, 1) := by decide +kernel
theorem dL_law_468 : decode cL_law 468 = .ok (.invokestatic 102, 3) := by decide +kernel
theorem dL_law_471 : decode cL_law 471 = .ok (.istore 5, 2) := by decide +kernel
theorem dL_law_473 : decode cL_law 473 = .ok (.aload_n 2, 1) := by decide +kernel
theorem dL_law_474 : decode cL_law 474 = .ok (.aload_n 0, 1) := by decide +kernel
theorem dL_law_475 : decode cL_law 475 = .ok (.iload 4, 2) := by decide +kernel
theorem dL_law_477 : decode cL_law 477 = .ok (.iconst 1, 1) := by decide +kernel
theorem dL_law_478 : decode cL_law 478 = .ok (.iadd, 1) := by decide +kernel
theorem dL_law_479 : decode cL_law 479 = .ok (.iaload, 1) := by decide +kernel
theorem dL_law_480 : decode cL_law 480 = .ok (.aload_n 0, 1) := by decide +kernel
theorem dL_law_481 : decode cL_law 481 = .ok (.iload 4, 2) := by decide +kernel
theorem dL_law_483 : decode cL_law 483 = .ok (.iconst 2, 1) := by decide +kernel
theorem dL_law_484 : decode cL_law 484 = .ok (.iadd, 1) := by decide +kernel
theorem dL_law_485 : decode cL_law 485 = .ok (.iaload, 1) := by decide +kernel
theorem dL_law_486 : decode cL_law 486 = .ok (.aload_n 0, 1) := by decide +kernel
theorem dL_law_487 : decode cL_law 487 = .ok (.iload 4, 2) := by decide +kernel
theorem dL_law_489 : decode cL_law 489 = .ok (.iconst 3, 1) := by decide +kernel
theorem dL_law_490 : decode cL_law 490 = .ok (.iadd, 1) := by decide +kernel
theorem dL_law_491 : decode cL_law 491 = .ok (.iaload, 1) := by decide +kernel
theorem dL_law_492 : decode cL_law 492 = .ok (.invokevirtual 104, 3) := by decide +kernel
theorem dL_law_495 : decode cL_law 495 = .ok (.istore 6, 2) := by decide +kernel
theorem dL_law_497 : decode cL_law 497 = .ok (.aload_n 2, 1) := by decide +kernel
theorem dL_law_498 : decode cL_law 498 = .ok (.invokevirtual 89, 3) := by decide +kernel
theorem dL_law_501 : decode cL_law 501 = .ok (.iload 5, 2) := by decide +kernel
theorem dL_law_503 : decode cL_law 503 = .ok (.if_icmp .eq 5, 3) := by decide +kernel
theorem dL_law_506 : decode cL_law 506 = .ok (.iconst 0, 1) := by decide +kernel
theorem dL_law_507 : decode cL_law 507 = .ok (.ireturn, 1) := by decide +kernel
theorem dL_law_508 : decode cL_law 508 = .ok (.iload 5, 2) := by decide +kernel
theorem dL_law_510 : decode cL_law 510 = .ok (.ifCond .ne 15, 3) := by decide +kernel
theorem dL_law_513 : decode cL_law 513 = .ok (.aload_n 3, 1) := by decide +kernel
theorem dL_law_514 : decode cL_law 514 = .ok (.iconst 0, 1) := by decide +kernel
theorem dL_law_515 : decode cL_law 515 = .ok (.laload, 1) := by decide +kernel
theorem dL_law_516 : decode cL_law 516 = .ok (.iload 6, 2) := by decide +kernel
theorem dL_law_518 : decode cL_law 518 = .ok (.i2l, 1) := by decide +kernel
theorem dL_law_519 : decode cL_law 519 = .ok (.lcmp, 1) := by decide +kernel
theorem dL_law_520 : decode cL_law 520 = .ok (.ifCond .eq 5, 3) := by decide +kernel
theorem dL_law_523 : decode cL_law 523 = .ok (.iconst 0, 1) := by decide +kernel
theorem dL_law_524 : decode cL_law 524 = .ok (.ireturn, 1) := by decide +kernel
theorem dL_law_525 : decode cL_law 525 = .ok (.goto 1033, 3) := by decide +kernel
theorem dL_law_528 : decode cL_law 528 = .ok (.aload_n 1, 1) := by decide +kernel
theorem dL_law_529 : decode cL_law 529 = .ok (.aload_n 0, 1) := by decide +kernel
theorem dL_law_530 : decode cL_law 530 = .ok (.iload 4, 2) := by decide +kernel
theorem dL_law_532 : decode cL_law 532 = .ok (.iconst 1, 1) := by decide +kernel
theorem dL_law_533 : decode cL_law 533 = .ok (.iadd, 1) := by decide +kernel
theorem dL_law_534 : decode cL_law 534 = .ok (.iaload, 1) := by decide +kernel
theorem dL_law_535 : decode cL_law 535 = .ok (.aload_n 3, 1) := by decide +kernel
theorem dL_law_536 : decode cL_law 536 = .ok (.invokestatic 105, 3) := by decide +kernel
theorem dL_law_539 : decode cL_law 539 = .ok (.istore 5, 2) := by decide +kernel
theorem dL_law_541 : decode cL_law 541 = .ok (.aload_n 2, 1) := by decide +kernel
theorem dL_law_542 : decode cL_law 542 = .ok (.aload_n 0, 1) := by decide +kernel
theorem dL_law_543 : decode cL_law 543 = .ok (.iload 4, 2) := by decide +kernel
theorem dL_law_545 : decode cL_law 545 = .ok (.iconst 1, 1) := by decide +kernel
theorem dL_law_546 : decode cL_law 546 = .ok (.iadd, 1) := by decide +kernel
theorem dL_law_547 : decode cL_law 547 = .ok (.iaload, 1) := by decide +kernel
theorem dL_law_548 : decode cL_law 548 = .ok (.invokevirtual 108, 3) := by decide +kernel
theorem dL_law_551 : decode cL_law 551 = .ok (.istore 6, 2) := by decide +kernel
theorem dL_law_553 : decode cL_law 553 = .ok (.aload_n 2, 1) := by decide +kernel
theorem dL_law_554 : decode cL_law 554 = .ok (.invokevirtual 89, 3) := by decide +kernel
theorem dL_law_557 : decode cL_law 557 = .ok (.iload 5, 2) := by decide +kernel
theorem dL_law_559 : decode cL_law 559 = .ok (.if_icmp .eq 5, 3) := by decide +kernel
theorem dL_law_562 : decode cL_law 562 = .ok (.iconst 0, 1) := by decide +kernel
theorem dL_law_563 : decode cL_law 563 = .ok (.ireturn, 1) := by decide +kernel
theorem dL_law_564 : decode cL_law 564 = .ok (.iload 5, 2) := by decide +kernel
theorem dL_law_566 : decode cL_law 566 = .ok (.ifCond .ne 15, 3) := by decide +kernel
theorem dL_law_569 : decode cL_law 569 = .ok (.aload_n 3, 1) := by decide +kernel
theorem dL_law_570 : decode cL_law 570 = .ok (.iconst 0, 1) := by decide +kernel
theorem dL_law_571 : decode cL_law 571 = .ok (.laload, 1) := by decide +kernel
theorem dL_law_572 : decode cL_law 572 = .ok (.iload 6, 2) := by decide +kernel
theorem dL_law_574 : decode cL_law 574 = .ok (.i2l, 1) := by decide +kernel
theorem dL_law_575 : decode cL_law 575 = .ok (.lcmp, 1) := by decide +kernel
theorem dL_law_576 : decode cL_law 576 = .ok (.ifCond .eq 5, 3) := by decide +kernel
theorem dL_law_579 : decode cL_law 579 = .ok (.iconst 0, 1) := by decide +kernel
theorem dL_law_580 : decode cL_law 580 = .ok (.ireturn, 1) := by decide +kernel
theorem dL_law_581 : decode cL_law 581 = .ok (.goto 977, 3) := by decide +kernel
theorem dL_law_584 : decode cL_law 584 = .ok (.aload_n 1, 1) := by decide +kernel
theorem dL_law_585 : decode cL_law 585 = .ok (.aload_n 0, 1) := by decide +kernel
theorem dL_law_586 : decode cL_law 586 = .ok (.iload 4, 2) := by decide +kernel
theorem dL_law_588 : decode cL_law 588 = .ok (.iconst 1, 1) := by decide +kernel
theorem dL_law_589 : decode cL_law 589 = .ok (.iadd, 1) := by decide +kernel
theorem dL_law_590 : decode cL_law 590 = .ok (.iaload, 1) := by decide +kernel
theorem dL_law_591 : decode cL_law 591 = .ok (.aload_n 3, 1) := by decide +kernel
theorem dL_law_592 : decode cL_law 592 = .ok (.invokestatic 109, 3) := by decide +kernel
theorem dL_law_595 : decode cL_law 595 = .ok (.istore 5, 2) := by decide +kernel
theorem dL_law_597 : decode cL_law 597 = .ok (.aload_n 2, 1) := by decide +kernel
theorem dL_law_598 : decode cL_law 598 = .ok (.aload_n 0, 1) := by decide +kernel
theorem dL_law_599 : decode cL_law 599 = .ok (.iload 4, 2) := by decide +kernel
theorem dL_law_601 : decode cL_law 601 = .ok (.iconst 1, 1) := by decide +kernel
theorem dL_law_602 : decode cL_law 602 = .ok (.iadd, 1) := by decide +kernel
theorem dL_law_603 : decode cL_law 603 = .ok (.iaload, 1) := by decide +kernel
theorem dL_law_604 : decode cL_law 604 = .ok (.invokevirtual 111, 3) := by decide +kernel
theorem dL_law_607 : decode cL_law 607 = .ok (.istore 6, 2) := by decide +kernel
theorem dL_law_609 : decode cL_law 609 = .ok (.aload_n 2, 1) := by decide +kernel
theorem dL_law_610 : decode cL_law 610 = .ok (.invokevirtual 89, 3) := by decide +kernel
theorem dL_law_613 : decode cL_law 613 = .ok (.iload 5, 2) := by decide +kernel
theorem dL_law_615 : decode cL_law 615 = .ok (.if_icmp .eq 5, 3) := by decide +kernel
theorem dL_law_618 : decode cL_law 618 = .ok (.iconst 0, 1) := by decide +kernel
theorem dL_law_619 : decode cL_law 619 = .ok (.ireturn, 1) := by decide +kernel
theorem dL_law_620 : decode cL_law 620 = .ok (.iload 5, 2) := by decide +kernel
theorem dL_law_622 : decode cL_law 622 = .ok (.ifCond .ne 15, 3) := by decide +kernel
theorem dL_law_625 : decode cL_law 625 = .ok (.aload_n 3, 1) := by decide +kernel
theorem dL_law_626 : decode cL_law 626 = .ok (.iconst 0, 1) := by decide +kernel
theorem dL_law_627 : decode cL_law 627 = .ok (.laload, 1) := by decide +kernel
theorem dL_law_628 : decode cL_law 628 = .ok (.iload 6, 2) := by decide +kernel
theorem dL_law_630 : decode cL_law 630 = .ok (.i2l, 1) := by decide +kernel
theorem dL_law_631 : decode cL_law 631 = .ok (.lcmp, 1) := by decide +kernel
theorem dL_law_632 : decode cL_law 632 = .ok (.ifCond .eq 5, 3) := by decide +kernel
theorem dL_law_635 : decode cL_law 635 = .ok (.iconst 0, 1) := by decide +kernel
theorem dL_law_636 : decode cL_law 636 = .ok (.ireturn, 1) := by decide +kernel
theorem dL_law_637 : decode cL_law 637 = .ok (.goto 921, 3) := by decide +kernel
theorem dL_law_640 : decode cL_law 640 = .ok (.aload_n 1, 1) := by decide +kernel
theorem dL_law_641 : decode cL_law 641 = .ok (.invokevirtual 112, 3) := by decide +kernel
theorem dL_law_644 : decode cL_law 644 = .ok (.aload_n 2, 1) := by decide +kernel
theorem dL_law_645 : decode cL_law 645 = .ok (.invokevirtual 115, 3) := by decide +kernel
theorem dL_law_648 : decode cL_law 648 = .ok (.if_icmp .eq 910, 3) := by decide +kernel
theorem dL_law_651 : decode cL_law 651 = .ok (.iconst 0, 1) := by decide +kernel
theorem dL_law_652 : decode cL_law 652 = .ok (.ireturn, 1) := by decide +kernel
theorem dL_law_653 : decode cL_law 653 = .ok (.aload_n 1, 1) := by decide +kernel
theorem dL_law_654 : decode cL_law 654 = .ok (.invokevirtual 116, 3) := by decide +kernel
theorem dL_law_657 : decode cL_law 657 = .ok (.aload_n 2, 1) := by decide +kernel
theorem dL_law_658 : decode cL_law 658 = .ok (.invokevirtual 119, 3) := by decide +kernel
theorem dL_law_661 : decode cL_law 661 = .ok (.if_icmp .eq 897, 3) := by decide +kernel
theorem dL_law_664 : decode cL_law 664 = .ok (.iconst 0, 1) := by decide +kernel
theorem dL_law_665 : decode cL_law 665 = .ok (.ireturn, 1) := by decide +kernel
theorem dL_law_666 : decode cL_law 666 = .ok (.aload_n 1, 1) := by decide +kernel
theorem dL_law_667 : decode cL_law 667 = .ok (.aload_n 0, 1) := by decide +kernel
theorem dL_law_668 : decode cL_law 668 = .ok (.iload 4, 2) := by decide +kernel
theorem dL_law_670 : decode cL_law 670 = .ok (.iconst 1, 1) := by decide +kernel
theorem dL_law_671 : decode cL_law 671 = .ok (.iadd, 1) := by decide +kernel
theorem dL_law_672 : decode cL_law 672 = .ok (.iaload, 1) := by decide +kernel
theorem dL_law_673 : decode cL_law 673 = .ok (.aload_n 0, 1) := by decide +kernel
theorem dL_law_674 : decode cL_law 674 = .ok (.iload 4, 2) := by decide +kernel
theorem dL_law_676 : decode cL_law 676 = .ok (.iconst 2, 1) := by decide +kernel
theorem dL_law_677 : decode cL_law 677 = .ok (.iadd, 1) := by decide +kernel
theorem dL_law_678 : decode cL_law 678 = .ok (.iaload, 1) := by decide +kernel
theorem dL_law_679 : decode cL_law 679 = .ok (.aload_n 3, 1) := by decide +kernel
theorem dL_law_680 : decode cL_law 680 = .ok (.invokestatic 120, 3) := by decide +kernel
theorem dL_law_683 : decode cL_law 683 = .ok (.istore 5, 2) := by decide +kernel
theorem dL_law_685 : decode cL_law 685 = .ok (.aload_n 2, 1) := by decide +kernel
theorem dL_law_686 : decode cL_law 686 = .ok (.aload_n 0, 1) := by decide +kernel
theorem dL_law_687 : decode cL_law 687 = .ok (.iload 4, 2) := by decide +kernel
theorem dL_law_689 : decode cL_law 689 = .ok (.iconst 1, 1) := by decide +kernel
theorem dL_law_690 : decode cL_law 690 = .ok (.iadd, 1) := by decide +kernel
theorem dL_law_691 : decode cL_law 691 = .ok (.iaload, 1) := by decide +kernel
theorem dL_law_692 : decode cL_law 692 = .ok (.aload_n 0, 1) := by decide +kernel
theorem dL_law_693 : decode cL_law 693 = .ok (.iload 4, 2) := by decide +kernel
theorem dL_law_695 : decode cL_law 695 = .ok (.iconst 2, 1) := by decide +kernel
theorem dL_law_696 : decode cL_law 696 = .ok (.iadd, 1) := by decide +kernel
theorem dL_law_697 : decode cL_law 697 = .ok (.iaload, 1) := by decide +kernel
theorem dL_law_698 : decode cL_law 698 = .ok (.invokevirtual 122, 3) := by decide +kernel
theorem dL_law_701 : decode cL_law 701 = .ok (.istore 6, 2) := by decide +kernel
theorem dL_law_703 : decode cL_law 703 = .ok (.aload_n 2, 1) := by decide +kernel
theorem dL_law_704 : decode cL_law 704 = .ok (.invokevirtual 89, 3) := by decide +kernel
theorem dL_law_707 : decode cL_law 707 = .ok (.iload 5, 2) := by decide +kernel
theorem dL_law_709 : decode cL_law 709 = .ok (.if_icmp .eq 5, 3) := by decide +kernel
theorem dL_law_712 : decode cL_law 712 = .ok (.iconst 0, 1) := by decide +kernel
theorem dL_law_713 : decode cL_law 713 = .ok (.ireturn, 1) := by decide +kernel
theorem dL_law_714 : decode cL_law 714 = .ok (.iload 5, 2) := by decide +kernel
theorem dL_law_716 : decode cL_law 716 = .ok (.ifCond .ne 15, 3) := by decide +kernel
theorem dL_law_719 : decode cL_law 719 = .ok (.aload_n 3, 1) := by decide +kernel
theorem dL_law_720 : decode cL_law 720 = .ok (.iconst 0, 1) := by decide +kernel
theorem dL_law_721 : decode cL_law 721 = .ok (.laload, 1) := by decide +kernel
theorem dL_law_722 : decode cL_law 722 = .ok (.iload 6, 2) := by decide +kernel
theorem dL_law_724 : decode cL_law 724 = .ok (.i2l, 1) := by decide +kernel
theorem dL_law_725 : decode cL_law 725 = .ok (.lcmp, 1) := by decide +kernel
theorem dL_law_726 : decode cL_law 726 = .ok (.ifCond .eq 5, 3) := by decide +kernel
theorem dL_law_729 : decode cL_law 729 = .ok (.iconst 0, 1) := by decide +kernel
theorem dL_law_730 : decode cL_law 730 = .ok (.ireturn, 1) := by decide +kernel
theorem dL_law_731 : decode cL_law 731 = .ok (.goto 827, 3) := by decide +kernel
theorem dL_law_734 : decode cL_law 734 = .ok (.aload_n 1, 1) := by decide +kernel
theorem dL_law_735 : decode cL_law 735 = .ok (.aload_n 0, 1) := by decide +kernel
theorem dL_law_736 : decode cL_law 736 = .ok (.iload 4, 2) := by decide +kernel
theorem dL_law_738 : decode cL_law 738 = .ok (.iconst 1, 1) := by decide +kernel
theorem dL_law_739 : decode cL_law 739 = .ok (.iadd, 1) := by decide +kernel
theorem dL_law_740 : decode cL_law 740 = .ok (.iaload, 1) := by decide +kernel
theorem dL_law_741 : decode cL_law 741 = .ok (.aload_n 3, 1) := by decide +kernel
theorem dL_law_742 : decode cL_law 742 = .ok (.invokestatic 123, 3) := by decide +kernel
theorem dL_law_745 : decode cL_law 745 = .ok (.istore 5, 2) := by decide +kernel
theorem dL_law_747 : decode cL_law 747 = .ok (.aload_n 2, 1) := by decide +kernel
theorem dL_law_748 : decode cL_law 748 = .ok (.aload_n 0, 1) := by decide +kernel
theorem dL_law_749 : decode cL_law 749 = .ok (.iload 4, 2) := by decide +kernel
theorem dL_law_751 : decode cL_law 751 = .ok (.iconst 1, 1) := by decide +kernel
theorem dL_law_752 : decode cL_law 752 = .ok (.iadd, 1) := by decide +kernel
theorem dL_law_753 : decode cL_law 753 = .ok (.iaload, 1) := by decide +kernel
theorem dL_law_754 : decode cL_law 754 = .ok (.invokevirtual 125, 3) := by decide +kernel
theorem dL_law_757 : decode cL_law 757 = .ok (.istore 6, 2) := by decide +kernel
theorem dL_law_759 : decode cL_law 759 = .ok (.aload_n 2, 1) := by decide +kernel
theorem dL_law_760 : decode cL_law 760 = .ok (.invokevirtual 89, 3) := by decide +kernel
theorem dL_law_763 : decode cL_law 763 = .ok (.iload 5, 2) := by decide +kernel
theorem dL_law_765 : decode cL_law 765 = .ok (.if_icmp .eq 5, 3) := by decide +kernel
theorem dL_law_768 : decode cL_law 768 = .ok (.iconst 0, 1) := by decide +kernel
theorem dL_law_769 : decode cL_law 769 = .ok (.ireturn, 1) := by decide +kernel
theorem dL_law_770 : decode cL_law 770 = .ok (.iload 5, 2) := by decide +kernel
theorem dL_law_772 : decode cL_law 772 = .ok (.ifCond .ne 15, 3) := by decide +kernel
theorem dL_law_775 : decode cL_law 775 = .ok (.aload_n 3, 1) := by decide +kernel
theorem dL_law_776 : decode cL_law 776 = .ok (.iconst 0, 1) := by decide +kernel
theorem dL_law_777 : decode cL_law 777 = .ok (.laload, 1) := by decide +kernel
theorem dL_law_778 : decode cL_law 778 = .ok (.iload 6, 2) := by decide +kernel
theorem dL_law_780 : decode cL_law 780 = .ok (.i2l, 1) := by decide +kernel
theorem dL_law_781 : decode cL_law 781 = .ok (.lcmp, 1) := by decide +kernel
theorem dL_law_782 : decode cL_law 782 = .ok (.ifCond .eq 5, 3) := by decide +kernel
theorem dL_law_785 : decode cL_law 785 = .ok (.iconst 0, 1) := by decide +kernel
theorem dL_law_786 : decode cL_law 786 = .ok (.ireturn, 1) := by decide +kernel
theorem dL_law_787 : decode cL_law 787 = .ok (.goto 771, 3) := by decide +kernel
theorem dL_law_790 : decode cL_law 790 = .ok (.aload_n 1, 1) := by decide +kernel
theorem dL_law_791 : decode cL_law 791 = .ok (.aload_n 0, 1) := by decide +kernel
theorem dL_law_792 : decode cL_law 792 = .ok (.iload 4, 2) := by decide +kernel
theorem dL_law_794 : decode cL_law 794 = .ok (.iconst 1, 1) := by decide +kernel
theorem dL_law_795 : decode cL_law 795 = .ok (.iadd, 1) := by decide +kernel
theorem dL_law_796 : decode cL_law 796 = .ok (.iaload, 1) := by decide +kernel
theorem dL_law_797 : decode cL_law 797 = .ok (.aload_n 3, 1) := by decide +kernel
theorem dL_law_798 : decode cL_law 798 = .ok (.invokestatic 126, 3) := by decide +kernel
theorem dL_law_801 : decode cL_law 801 = .ok (.istore 5, 2) := by decide +kernel
theorem dL_law_803 : decode cL_law 803 = .ok (.aload_n 2, 1) := by decide +kernel
theorem dL_law_804 : decode cL_law 804 = .ok (.aload_n 0, 1) := by decide +kernel
theorem dL_law_805 : decode cL_law 805 = .ok (.iload 4, 2) := by decide +kernel
theorem dL_law_807 : decode cL_law 807 = .ok (.iconst 1, 1) := by decide +kernel
theorem dL_law_808 : decode cL_law 808 = .ok (.iadd, 1) := by decide +kernel
theorem dL_law_809 : decode cL_law 809 = .ok (.iaload, 1) := by decide +kernel
theorem dL_law_810 : decode cL_law 810 = .ok (.invokevirtual 128, 3) := by decide +kernel
theorem dL_law_813 : decode cL_law 813 = .ok (.istore 6, 2) := by decide +kernel
theorem dL_law_815 : decode cL_law 815 = .ok (.aload_n 2, 1) := by decide +kernel
theorem dL_law_816 : decode cL_law 816 = .ok (.invokevirtual 89, 3) := by decide +kernel
theorem dL_law_819 : decode cL_law 819 = .ok (.iload 5, 2) := by decide +kernel
theorem dL_law_821 : decode cL_law 821 = .ok (.if_icmp .eq 5, 3) := by decide +kernel
theorem dL_law_824 : decode cL_law 824 = .ok (.iconst 0, 1) := by decide +kernel
theorem dL_law_825 : decode cL_law 825 = .ok (.ireturn, 1) := by decide +kernel
theorem dL_law_826 : decode cL_law 826 = .ok (.iload 5, 2) := by decide +kernel
theorem dL_law_828 : decode cL_law 828 = .ok (.ifCond .ne 15, 3) := by decide +kernel
theorem dL_law_831 : decode cL_law 831 = .ok (.aload_n 3, 1) := by decide +kernel
theorem dL_law_832 : decode cL_law 832 = .ok (.iconst 0, 1) := by decide +kernel
theorem dL_law_833 : decode cL_law 833 = .ok (.laload, 1) := by decide +kernel
theorem dL_law_834 : decode cL_law 834 = .ok (.iload 6, 2) := by decide +kernel
theorem dL_law_836 : decode cL_law 836 = .ok (.i2l, 1) := by decide +kernel
theorem dL_law_837 : decode cL_law 837 = .ok (.lcmp, 1) := by decide +kernel
theorem dL_law_838 : decode cL_law 838 = .ok (.ifCond .eq 5, 3) := by decide +kernel
theorem dL_law_841 : decode cL_law 841 = .ok (.iconst 0, 1) := by decide +kernel
theorem dL_law_842 : decode cL_law 842 = .ok (.ireturn, 1) := by decide +kernel
theorem dL_law_843 : decode cL_law 843 = .ok (.goto 715, 3) := by decide +kernel
theorem dL_law_846 : decode cL_law 846 = .ok (.aload_n 1, 1) := by decide +kernel
theorem dL_law_847 : decode cL_law 847 = .ok (.aload_n 3, 1) := by decide +kernel
theorem dL_law_848 : decode cL_law 848 = .ok (.invokestatic 129, 3) := by decide +kernel
theorem dL_law_851 : decode cL_law 851 = .ok (.istore 5, 2) := by decide +kernel
theorem dL_law_853 : decode cL_law 853 = .ok (.aload_n 2, 1) := by decide +kernel
theorem dL_law_854 : decode cL_law 854 = .ok (.invokevirtual 132, 3) := by decide +kernel
theorem dL_law_857 : decode cL_law 857 = .ok (.istore 6, 2) := by decide +kernel
theorem dL_law_859 : decode cL_law 859 = .ok (.aload_n 2, 1) := by decide +kernel
theorem dL_law_860 : decode cL_law 860 = .ok (.invokevirtual 89, 3) := by decide +kernel
theorem dL_law_863 : decode cL_law 863 = .ok (.iload 5, 2) := by decide +kernel
theorem dL_law_865 : decode cL_law 865 = .ok (.if_icmp .eq 5, 3) := by decide +kernel
theorem dL_law_868 : decode cL_law 868 = .ok (.iconst 0, 1) := by decide +kernel
theorem dL_law_869 : decode cL_law 869 = .ok (.ireturn, 1) := by decide +kernel
theorem dL_law_870 : decode cL_law 870 = .ok (.iload 5, 2) := by decide +kernel
theorem dL_law_872 : decode cL_law 872 = .ok (.ifCond .ne 15, 3) := by decide +kernel
theorem dL_law_875 : decode cL_law 875 = .ok (.aload_n 3, 1) := by decide +kernel
theorem dL_law_876 : decode cL_law 876 = .ok (.iconst 0, 1) := by decide +kernel
theorem dL_law_877 : decode cL_law 877 = .ok (.laload, 1) := by decide +kernel
theorem dL_law_878 : decode cL_law 878 = .ok (.iload 6, 2) := by decide +kernel
theorem dL_law_880 : decode cL_law 880 = .ok (.i2l, 1) := by decide +kernel
theorem dL_law_881 : decode cL_law 881 = .ok (.lcmp, 1) := by decide +kernel
theorem dL_law_882 : decode cL_law 882 = .ok (.ifCond .eq 5, 3) := by decide +kernel
theorem dL_law_885 : decode cL_law 885 = .ok (.iconst 0, 1) := by decide +kernel
theorem dL_law_886 : decode cL_law 886 = .ok (.ireturn, 1) := by decide +kernel
theorem dL_law_887 : decode cL_law 887 = .ok (.goto 671, 3) := by decide +kernel
theorem dL_law_890 : decode cL_law 890 = .ok (.aload_n 1, 1) := by decide +kernel
theorem dL_law_891 : decode cL_law 891 = .ok (.aload_n 0, 1) := by decide +kernel
theorem dL_law_892 : decode cL_law 892 = .ok (.iload 4, 2) := by decide +kernel
theorem dL_law_894 : decode cL_law 894 = .ok (.iconst 1, 1) := by decide +kernel
theorem dL_law_895 : decode cL_law 895 = .ok (.iadd, 1) := by decide +kernel
theorem dL_law_896 : decode cL_law 896 = .ok (.iaload, 1) := by decide +kernel
theorem dL_law_897 : decode cL_law 897 = .ok (.aload_n 0, 1) := by decide +kernel
theorem dL_law_898 : decode cL_law 898 = .ok (.iload 4, 2) := by decide +kernel
theorem dL_law_900 : decode cL_law 900 = .ok (.iconst 2, 1) := by decide +kernel
theorem dL_law_901 : decode cL_law 901 = .ok (.iadd, 1) := by decide +kernel
theorem dL_law_902 : decode cL_law 902 = .ok (.iaload, 1) := by decide +kernel
theorem dL_law_903 : decode cL_law 903 = .ok (.aload_n 3, 1) := by decide +kernel
theorem dL_law_904 : decode cL_law 904 = .ok (.invokestatic 133, 3) := by decide +kernel
theorem dL_law_907 : decode cL_law 907 = .ok (.istore 5, 2) := by decide +kernel
theorem dL_law_909 : decode cL_law 909 = .ok (.aload_n 2, 1) := by decide +kernel
theorem dL_law_910 : decode cL_law 910 = .ok (.aload_n 0, 1) := by decide +kernel
theorem dL_law_911 : decode cL_law 911 = .ok (.iload 4, 2) := by decide +kernel
theorem dL_law_913 : decode cL_law 913 = .ok (.iconst 1, 1) := by decide +kernel
theorem dL_law_914 : decode cL_law 914 = .ok (.iadd, 1) := by decide +kernel
theorem dL_law_915 : decode cL_law 915 = .ok (.iaload, 1) := by decide +kernel
theorem dL_law_916 : decode cL_law 916 = .ok (.aload_n 0, 1) := by decide +kernel
theorem dL_law_917 : decode cL_law 917 = .ok (.iload 4, 2) := by decide +kernel
theorem dL_law_919 : decode cL_law 919 = .ok (.iconst 2, 1) := by decide +kernel
theorem dL_law_920 : decode cL_law 920 = .ok (.iadd, 1) := by decide +kernel
theorem dL_law_921 : decode cL_law 921 = .ok (.iaload, 1) := by decide +kernel
theorem dL_law_922 : decode cL_law 922 = .ok (.invokevirtual 135, 3) := by decide +kernel
theorem dL_law_925 : decode cL_law 925 = .ok (.istore 6, 2) := by decide +kernel
theorem dL_law_927 : decode cL_law 927 = .ok (.aload_n 2, 1) := by decide +kernel
theorem dL_law_928 : decode cL_law 928 = .ok (.invokevirtual 89, 3) := by decide +kernel
theorem dL_law_931 : decode cL_law 931 = .ok (.iload 5, 2) := by decide +kernel
theorem dL_law_933 : decode cL_law 933 = .ok (.if_icmp .eq 5, 3) := by decide +kernel
theorem dL_law_936 : decode cL_law 936 = .ok (.iconst 0, 1) := by decide +kernel
theorem dL_law_937 : decode cL_law 937 = .ok (.ireturn, 1) := by decide +kernel
theorem dL_law_938 : decode cL_law 938 = .ok (.iload 5, 2) := by decide +kernel
theorem dL_law_940 : decode cL_law 940 = .ok (.ifCond .ne 15, 3) := by decide +kernel
theorem dL_law_943 : decode cL_law 943 = .ok (.aload_n 3, 1) := by decide +kernel
theorem dL_law_944 : decode cL_law 944 = .ok (.iconst 0, 1) := by decide +kernel
theorem dL_law_945 : decode cL_law 945 = .ok (.laload, 1) := by decide +kernel
theorem dL_law_946 : decode cL_law 946 = .ok (.iload 6, 2) := by decide +kernel
theorem dL_law_948 : decode cL_law 948 = .ok (.i2l, 1) := by decide +kernel
theorem dL_law_949 : decode cL_law 949 = .ok (.lcmp, 1) := by decide +kernel
theorem dL_law_950 : decode cL_law 950 = .ok (.ifCond .eq 5, 3) := by decide +kernel
theorem dL_law_953 : decode cL_law 953 = .ok (.iconst 0, 1) := by decide +kernel
theorem dL_law_954 : decode cL_law 954 = .ok (.ireturn, 1) := by decide +kernel
theorem dL_law_955 : decode cL_law 955 = .ok (.goto 603, 3) := by decide +kernel
theorem dL_law_958 : decode cL_law 958 = .ok (.aload_n 1, 1) := by decide +kernel
theorem dL_law_959 : decode cL_law 959 = .ok (.aload_n 0, 1) := by decide +kernel
theorem dL_law_960 : decode cL_law 960 = .ok (.iload 4, 2) := by decide +kernel
theorem dL_law_962 : decode cL_law 962 = .ok (.iconst 1, 1) := by decide +kernel
theorem dL_law_963 : decode cL_law 963 = .ok (.iadd, 1) := by decide +kernel
theorem dL_law_964 : decode cL_law 964 = .ok (.iaload, 1) := by decide +kernel
theorem dL_law_965 : decode cL_law 965 = .ok (.aload_n 0, 1) := by decide +kernel
theorem dL_law_966 : decode cL_law 966 = .ok (.iload 4, 2) := by decide +kernel
theorem dL_law_968 : decode cL_law 968 = .ok (.iconst 2, 1) := by decide +kernel
theorem dL_law_969 : decode cL_law 969 = .ok (.iadd, 1) := by decide +kernel
theorem dL_law_970 : decode cL_law 970 = .ok (.iaload, 1) := by decide +kernel
theorem dL_law_971 : decode cL_law 971 = .ok (.aload_n 0, 1) := by decide +kernel
theorem dL_law_972 : decode cL_law 972 = .ok (.iload 4, 2) := by decide +kernel
theorem dL_law_974 : decode cL_law 974 = .ok (.iconst 3, 1) := by decide +kernel
theorem dL_law_975 : decode cL_law 975 = .ok (.iadd, 1) := by decide +kernel
theorem dL_law_976 : decode cL_law 976 = .ok (.iaload, 1) := by decide +kernel
theorem dL_law_977 : decode cL_law 977 = .ok (.aload_n 3, 1) := by decide +kernel
theorem dL_law_978 : decode cL_law 978 = .ok (.invokestatic 136, 3) := by decide +kernel
theorem dL_law_981 : decode cL_law 981 = .ok (.istore 5, 2) := by decide +kernel
theorem dL_law_983 : decode cL_law 983 = .ok (.aload_n 2, 1) := by decide +kernel
theorem dL_law_984 : decode cL_law 984 = .ok (.aload_n 0, 1) := by decide +kernel
theorem dL_law_985 : decode cL_law 985 = .ok (.iload 4, 2) := by decide +kernel
theorem dL_law_987 : decode cL_law 987 = .ok (.iconst 1, 1) := by decide +kernel
theorem dL_law_988 : decode cL_law 988 = .ok (.iadd, 1) := by decide +kernel
theorem dL_law_989 : decode cL_law 989 = .ok (.iaload, 1) := by decide +kernel
theorem dL_law_990 : decode cL_law 990 = .ok (.aload_n 0, 1) := by decide +kernel
theorem dL_law_991 : decode cL_law 991 = .ok (.iload 4, 2) := by decide +kernel
theorem dL_law_993 : decode cL_law 993 = .ok (.iconst 2, 1) := by decide +kernel
theorem dL_law_994 : decode cL_law 994 = .ok (.iadd, 1) := by decide +kernel
theorem dL_law_995 : decode cL_law 995 = .ok (.iaload, 1) := by decide +kernel
theorem dL_law_996 : decode cL_law 996 = .ok (.aload_n 0, 1) := by decide +kernel
theorem dL_law_997 : decode cL_law 997 = .ok (.iload 4, 2) := by decide +kernel
theorem dL_law_999 : decode cL_law 999 = .ok (.iconst 3, 1) := by decide +kernel
theorem dL_law_1000 : decode cL_law 1000 = .ok (.iadd, 1) := by decide +kernel
theorem dL_law_1001 : decode cL_law 1001 = .ok (.iaload, 1) := by decide +kernel
theorem dL_law_1002 : decode cL_law 1002 = .ok (.invokevirtual 138, 3) := by decide +kernel
theorem dL_law_1005 : decode cL_law 1005 = .ok (.istore 6, 2) := by decide +kernel
theorem dL_law_1007 : decode cL_law 1007 = .ok (.aload_n 2, 1) := by decide +kernel
theorem dL_law_1008 : decode cL_law 1008 = .ok (.invokevirtual 89, 3) := by decide +kernel
theorem dL_law_1011 : decode cL_law 1011 = .ok (.iload 5, 2) := by decide +kernel
theorem dL_law_1013 : decode cL_law 1013 = .ok (.if_icmp .eq 5, 3) := by decide +kernel
theorem dL_law_1016 : decode cL_law 1016 = .ok (.iconst 0, 1) := by decide +kernel
theorem dL_law_1017 : decode cL_law 1017 = .ok (.ireturn, 1) := by decide +kernel
theorem dL_law_1018 : decode cL_law 1018 = .ok (.iload 5, 2) := by decide +kernel
theorem dL_law_1020 : decode cL_law 1020 = .ok (.ifCond .ne 15, 3) := by decide +kernel
theorem dL_law_1023 : decode cL_law 1023 = .ok (.aload_n 3, 1) := by decide +kernel
theorem dL_law_1024 : decode cL_law 1024 = .ok (.iconst 0, 1) := by decide +kernel
theorem dL_law_1025 : decode cL_law 1025 = .ok (.laload, 1) := by decide +kernel
theorem dL_law_1026 : decode cL_law 1026 = .ok (.iload 6, 2) := by decide +kernel
theorem dL_law_1028 : decode cL_law 1028 = .ok (.i2l, 1) := by decide +kernel
theorem dL_law_1029 : decode cL_law 1029 = .ok (.lcmp, 1) := by decide +kernel
theorem dL_law_1030 : decode cL_law 1030 = .ok (.ifCond .eq 5, 3) := by decide +kernel
theorem dL_law_1033 : decode cL_law 1033 = .ok (.iconst 0, 1) := by decide +kernel
theorem dL_law_1034 : decode cL_law 1034 = .ok (.ireturn, 1) := by decide +kernel
theorem dL_law_1035 : decode cL_law 1035 = .ok (.goto 523, 3) := by decide +kernel
theorem dL_law_1038 : decode cL_law 1038 = .ok (.aload_n 1, 1) := by decide +kernel
theorem dL_law_1039 : decode cL_law 1039 = .ok (.aload_n 0, 1) := by decide +kernel
theorem dL_law_1040 : decode cL_law 1040 = .ok (.iload 4, 2) := by decide +kernel
theorem dL_law_1042 : decode cL_law 1042 = .ok (.iconst 1, 1) := by decide +kernel
theorem dL_law_1043 : decode cL_law 1043 = .ok (.iadd, 1) := by decide +kernel
theorem dL_law_1044 : decode cL_law 1044 = .ok (.iaload, 1) := by decide +kernel
theorem dL_law_1045 : decode cL_law 1045 = .ok (.aload_n 0, 1) := by decide +kernel
theorem dL_law_1046 : decode cL_law 1046 = .ok (.iload 4, 2) := by decide +kernel
theorem dL_law_1048 : decode cL_law 1048 = .ok (.iconst 2, 1) := by decide +kernel
theorem dL_law_1049 : decode cL_law 1049 = .ok (.iadd, 1) := by decide +kernel
theorem dL_law_1050 : decode cL_law 1050 = .ok (.iaload, 1) := by decide +kernel
theorem dL_law_1051 : decode cL_law 1051 = .ok (.aload_n 0, 1) := by decide +kernel
theorem dL_law_1052 : decode cL_law 1052 = .ok (.iload 4, 2) := by decide +kernel
theorem dL_law_1054 : decode cL_law 1054 = .ok (.iconst 3, 1) := by decide +kernel
theorem dL_law_1055 : decode cL_law 1055 = .ok (.iadd, 1) := by decide +kernel
theorem dL_law_1056 : decode cL_law 1056 = .ok (.iaload, 1) := by decide +kernel
theorem dL_law_1057 : decode cL_law 1057 = .ok (.aload_n 3, 1) := by decide +kernel
theorem dL_law_1058 : decode cL_law 1058 = .ok (.invokestatic 139, 3) := by decide +kernel
theorem dL_law_1061 : decode cL_law 1061 = .ok (.istore 5, 2) := by decide +kernel
theorem dL_law_1063 : decode cL_law 1063 = .ok (.aload_n 2, 1) := by decide +kernel
theorem dL_law_1064 : decode cL_law 1064 = .ok (.aload_n 0, 1) := by decide +kernel
theorem dL_law_1065 : decode cL_law 1065 = .ok (.iload 4, 2) := by decide +kernel
theorem dL_law_1067 : decode cL_law 1067 = .ok (.iconst 1, 1) := by decide +kernel
theorem dL_law_1068 : decode cL_law 1068 = .ok (.iadd, 1) := by decide +kernel
theorem dL_law_1069 : decode cL_law 1069 = .ok (.iaload, 1) := by decide +kernel
theorem dL_law_1070 : decode cL_law 1070 = .ok (.aload_n 0, 1) := by decide +kernel
theorem dL_law_1071 : decode cL_law 1071 = .ok (.iload 4, 2) := by decide +kernel
theorem dL_law_1073 : decode cL_law 1073 = .ok (.iconst 2, 1) := by decide +kernel
theorem dL_law_1074 : decode cL_law 1074 = .ok (.iadd, 1) := by decide +kernel
theorem dL_law_1075 : decode cL_law 1075 = .ok (.iaload, 1) := by decide +kernel
theorem dL_law_1076 : decode cL_law 1076 = .ok (.aload_n 0, 1) := by decide +kernel
theorem dL_law_1077 : decode cL_law 1077 = .ok (.iload 4, 2) := by decide +kernel
theorem dL_law_1079 : decode cL_law 1079 = .ok (.iconst 3, 1) := by decide +kernel
theorem dL_law_1080 : decode cL_law 1080 = .ok (.iadd, 1) := by decide +kernel
theorem dL_law_1081 : decode cL_law 1081 = .ok (.iaload, 1) := by decide +kernel
theorem dL_law_1082 : decode cL_law 1082 = .ok (.invokevirtual 141, 3) := by decide +kernel
theorem dL_law_1085 : decode cL_law 1085 = .ok (.istore 6, 2) := by decide +kernel
theorem dL_law_1087 : decode cL_law 1087 = .ok (.aload_n 2, 1) := by decide +kernel
theorem dL_law_1088 : decode cL_law 1088 = .ok (.invokevirtual 89, 3) := by decide +kernel
theorem dL_law_1091 : decode cL_law 1091 = .ok (.iload 5, 2) := by decide +kernel
theorem dL_law_1093 : decode cL_law 1093 = .ok (.if_icmp .eq 5, 3) := by decide +kernel
theorem dL_law_1096 : decode cL_law 1096 = .ok (.iconst 0, 1) := by decide +kernel
theorem dL_law_1097 : decode cL_law 1097 = .ok (.ireturn, 1) := by decide +kernel
theorem dL_law_1098 : decode cL_law 1098 = .ok (.iload 5, 2) := by decide +kernel
theorem dL_law_1100 : decode cL_law 1100 = .ok (.ifCond .ne 15, 3) := by decide +kernel
theorem dL_law_1103 : decode cL_law 1103 = .ok (.aload_n 3, 1) := by decide +kernel
theorem dL_law_1104 : decode cL_law 1104 = .ok (.iconst 0, 1) := by decide +kernel
theorem dL_law_1105 : decode cL_law 1105 = .ok (.laload, 1) := by decide +kernel
theorem dL_law_1106 : decode cL_law 1106 = .ok (.iload 6, 2) := by decide +kernel
theorem dL_law_1108 : decode cL_law 1108 = .ok (.i2l, 1) := by decide +kernel
theorem dL_law_1109 : decode cL_law 1109 = .ok (.lcmp, 1) := by decide +kernel
theorem dL_law_1110 : decode cL_law 1110 = .ok (.ifCond .eq 5, 3) := by decide +kernel
theorem dL_law_1113 : decode cL_law 1113 = .ok (.iconst 0, 1) := by decide +kernel
theorem dL_law_1114 : decode cL_law 1114 = .ok (.ireturn, 1) := by decide +kernel
theorem dL_law_1115 : decode cL_law 1115 = .ok (.goto 443, 3) := by decide +kernel
theorem dL_law_1118 : decode cL_law 1118 = .ok (.aload_n 1, 1) := by decide +kernel
theorem dL_law_1119 : decode cL_law 1119 = .ok (.aload_n 0, 1) := by decide +kernel
theorem dL_law_1120 : decode cL_law 1120 = .ok (.iload 4, 2) := by decide +kernel
theorem dL_law_1122 : decode cL_law 1122 = .ok (.iconst 1, 1) := by decide +kernel
theorem dL_law_1123 : decode cL_law 1123 = .ok (.iadd, 1) := by decide +kernel
theorem dL_law_1124 : decode cL_law 1124 = .ok (.iaload, 1) := by decide +kernel
theorem dL_law_1125 : decode cL_law 1125 = .ok (.aload_n 0, 1) := by decide +kernel
theorem dL_law_1126 : decode cL_law 1126 = .ok (.iload 4, 2) := by decide +kernel
theorem dL_law_1128 : decode cL_law 1128 = .ok (.iconst 2, 1) := by decide +kernel
theorem dL_law_1129 : decode cL_law 1129 = .ok (.iadd, 1) := by decide +kernel
theorem dL_law_1130 : decode cL_law 1130 = .ok (.iaload, 1) := by decide +kernel
theorem dL_law_1131 : decode cL_law 1131 = .ok (.aload_n 3, 1) := by decide +kernel
theorem dL_law_1132 : decode cL_law 1132 = .ok (.invokestatic 142, 3) := by decide +kernel
theorem dL_law_1135 : decode cL_law 1135 = .ok (.istore 5, 2) := by decide +kernel
theorem dL_law_1137 : decode cL_law 1137 = .ok (.aload_n 2, 1) := by decide +kernel
theorem dL_law_1138 : decode cL_law 1138 = .ok (.aload_n 0, 1) := by decide +kernel
theorem dL_law_1139 : decode cL_law 1139 = .ok (.iload 4, 2) := by decide +kernel
theorem dL_law_1141 : decode cL_law 1141 = .ok (.iconst 1, 1) := by decide +kernel
theorem dL_law_1142 : decode cL_law 1142 = .ok (.iadd, 1) := by decide +kernel
theorem dL_law_1143 : decode cL_law 1143 = .ok (.iaload, 1) := by decide +kernel
theorem dL_law_1144 : decode cL_law 1144 = .ok (.aload_n 0, 1) := by decide +kernel
theorem dL_law_1145 : decode cL_law 1145 = .ok (.iload 4, 2) := by decide +kernel
theorem dL_law_1147 : decode cL_law 1147 = .ok (.iconst 2, 1) := by decide +kernel
theorem dL_law_1148 : decode cL_law 1148 = .ok (.iadd, 1) := by decide +kernel
theorem dL_law_1149 : decode cL_law 1149 = .ok (.iaload, 1) := by decide +kernel
theorem dL_law_1150 : decode cL_law 1150 = .ok (.invokevirtual 144, 3) := by decide +kernel
theorem dL_law_1153 : decode cL_law 1153 = .ok (.istore 6, 2) := by decide +kernel
theorem dL_law_1155 : decode cL_law 1155 = .ok (.aload_n 2, 1) := by decide +kernel
theorem dL_law_1156 : decode cL_law 1156 = .ok (.invokevirtual 89, 3) := by decide +kernel
theorem dL_law_1159 : decode cL_law 1159 = .ok (.iload 5, 2) := by decide +kernel
theorem dL_law_1161 : decode cL_law 1161 = .ok (.if_icmp .eq 5, 3) := by decide +kernel
theorem dL_law_1164 : decode cL_law 1164 = .ok (.iconst 0, 1) := by decide +kernel
theorem dL_law_1165 : decode cL_law 1165 = .ok (.ireturn, 1) := by decide +kernel
theorem dL_law_1166 : decode cL_law 1166 = .ok (.iload 5, 2) := by decide +kernel
theorem dL_law_1168 : decode cL_law 1168 = .ok (.ifCond .ne 15, 3) := by decide +kernel
theorem dL_law_1171 : decode cL_law 1171 = .ok (.aload_n 3, 1) := by decide +kernel
theorem dL_law_1172 : decode cL_law 1172 = .ok (.iconst 0, 1) := by decide +kernel
theorem dL_law_1173 : decode cL_law 1173 = .ok (.laload, 1) := by decide +kernel
theorem dL_law_1174 : decode cL_law 1174 = .ok (.iload 6, 2) := by decide +kernel
theorem dL_law_1176 : decode cL_law 1176 = .ok (.i2l, 1) := by decide +kernel
theorem dL_law_1177 : decode cL_law 1177 = .ok (.lcmp, 1) := by decide +kernel
theorem dL_law_1178 : decode cL_law 1178 = .ok (.ifCond .eq 5, 3) := by decide +kernel
theorem dL_law_1181 : decode cL_law 1181 = .ok (.iconst 0, 1) := by decide +kernel
theorem dL_law_1182 : decode cL_law 1182 = .ok (.ireturn, 1) := by decide +kernel
theorem dL_law_1183 : decode cL_law 1183 = .ok (.goto 375, 3) := by decide +kernel
theorem dL_law_1186 : decode cL_law 1186 = .ok (.aload_n 1, 1) := by decide +kernel
theorem dL_law_1187 : decode cL_law 1187 = .ok (.aload_n 0, 1) := by decide +kernel
theorem dL_law_1188 : decode cL_law 1188 = .ok (.iload 4, 2) := by decide +kernel
theorem dL_law_1190 : decode cL_law 1190 = .ok (.iconst 1, 1) := by decide +kernel
theorem dL_law_1191 : decode cL_law 1191 = .ok (.iadd, 1) := by decide +kernel
theorem dL_law_1192 : decode cL_law 1192 = .ok (.iaload, 1) := by decide +kernel
theorem dL_law_1193 : decode cL_law 1193 = .ok (.aload_n 3, 1) := by decide +kernel
theorem dL_law_1194 : decode cL_law 1194 = .ok (.invokestatic 145, 3) := by decide +kernel
theorem dL_law_1197 : decode cL_law 1197 = .ok (.istore 5, 2) := by decide +kernel
theorem dL_law_1199 : decode cL_law 1199 = .ok (.aload_n 2, 1) := by decide +kernel
theorem dL_law_1200 : decode cL_law 1200 = .ok (.aload_n 0, 1) := by decide +kernel
theorem dL_law_1201 : decode cL_law 1201 = .ok (.iload 4, 2) := by decide +kernel
theorem dL_law_1203 : decode cL_law 1203 = .ok (.iconst 1, 1) := by decide +kernel
theorem dL_law_1204 : decode cL_law 1204 = .ok (.iadd, 1) := by decide +kernel
theorem dL_law_1205 : decode cL_law 1205 = .ok (.iaload, 1) := by decide +kernel
theorem dL_law_1206 : decode cL_law 1206 = .ok (.invokevirtual 147, 3) := by decide +kernel
theorem dL_law_1209 : decode cL_law 1209 = .ok (.istore 6, 2) := by decide +kernel
theorem dL_law_1211 : decode cL_law 1211 = .ok (.aload_n 2, 1) := by decide +kernel
theorem dL_law_1212 : decode cL_law 1212 = .ok (.invokevirtual 89, 3) := by decide +kernel
theorem dL_law_1215 : decode cL_law 1215 = .ok (.iload 5, 2) := by decide +kernel
theorem dL_law_1217 : decode cL_law 1217 = .ok (.if_icmp .eq 5, 3) := by decide +kernel
theorem dL_law_1220 : decode cL_law 1220 = .ok (.iconst 0, 1) := by decide +kernel
theorem dL_law_1221 : decode cL_law 1221 = .ok (.ireturn, 1) := by decide +kernel
theorem dL_law_1222 : decode cL_law 1222 = .ok (.iload 5, 2) := by decide +kernel
theorem dL_law_1224 : decode cL_law 1224 = .ok (.ifCond .ne 15, 3) := by decide +kernel
theorem dL_law_1227 : decode cL_law 1227 = .ok (.aload_n 3, 1) := by decide +kernel
theorem dL_law_1228 : decode cL_law 1228 = .ok (.iconst 0, 1) := by decide +kernel
theorem dL_law_1229 : decode cL_law 1229 = .ok (.laload, 1) := by decide +kernel
theorem dL_law_1230 : decode cL_law 1230 = .ok (.iload 6, 2) := by decide +kernel
theorem dL_law_1232 : decode cL_law 1232 = .ok (.i2l, 1) := by decide +kernel
theorem dL_law_1233 : decode cL_law 1233 = .ok (.lcmp, 1) := by decide +kernel
theorem dL_law_1234 : decode cL_law 1234 = .ok (.ifCond .eq 5, 3) := by decide +kernel
theorem dL_law_1237 : decode cL_law 1237 = .ok (.iconst 0, 1) := by decide +kernel
theorem dL_law_1238 : decode cL_law 1238 = .ok (.ireturn, 1) := by decide +kernel
theorem dL_law_1239 : decode cL_law 1239 = .ok (.goto 319, 3) := by decide +kernel
theorem dL_law_1242 : decode cL_law 1242 = .ok (.aload_n 1, 1) := by decide +kernel
theorem dL_law_1243 : decode cL_law 1243 = .ok (.aload_n 0, 1) := by decide +kernel
theorem dL_law_1244 : decode cL_law 1244 = .ok (.iload 4, 2) := by decide +kernel
theorem dL_law_1246 : decode cL_law 1246 = .ok (.iconst 1, 1) := by decide +kernel
theorem dL_law_1247 : decode cL_law 1247 = .ok (.iadd, 1) := by decide +kernel
theorem dL_law_1248 : decode cL_law 1248 = .ok (.iaload, 1) := by decide +kernel
theorem dL_law_1249 : decode cL_law 1249 = .ok (.aload_n 3, 1) := by decide +kernel
theorem dL_law_1250 : decode cL_law 1250 = .ok (.invokestatic 148, 3) := by decide +kernel
theorem dL_law_1253 : decode cL_law 1253 = .ok (.istore 5, 2) := by decide +kernel
theorem dL_law_1255 : decode cL_law 1255 = .ok (.aload_n 2, 1) := by decide +kernel
theorem dL_law_1256 : decode cL_law 1256 = .ok (.aload_n 0, 1) := by decide +kernel
theorem dL_law_1257 : decode cL_law 1257 = .ok (.iload 4, 2) := by decide +kernel
theorem dL_law_1259 : decode cL_law 1259 = .ok (.iconst 1, 1) := by decide +kernel
theorem dL_law_1260 : decode cL_law 1260 = .ok (.iadd, 1) := by decide +kernel
theorem dL_law_1261 : decode cL_law 1261 = .ok (.iaload, 1) := by decide +kernel
theorem dL_law_1262 : decode cL_law 1262 = .ok (.invokevirtual 150, 3) := by decide +kernel
theorem dL_law_1265 : decode cL_law 1265 = .ok (.istore 6, 2) := by decide +kernel
theorem dL_law_1267 : decode cL_law 1267 = .ok (.aload_n 2, 1) := by decide +kernel
theorem dL_law_1268 : decode cL_law 1268 = .ok (.invokevirtual 89, 3) := by decide +kernel
theorem dL_law_1271 : decode cL_law 1271 = .ok (.iload 5, 2) := by decide +kernel
theorem dL_law_1273 : decode cL_law 1273 = .ok (.if_icmp .eq 5, 3) := by decide +kernel
theorem dL_law_1276 : decode cL_law 1276 = .ok (.iconst 0, 1) := by decide +kernel
theorem dL_law_1277 : decode cL_law 1277 = .ok (.ireturn, 1) := by decide +kernel
theorem dL_law_1278 : decode cL_law 1278 = .ok (.iload 5, 2) := by decide +kernel
theorem dL_law_1280 : decode cL_law 1280 = .ok (.ifCond .ne 15, 3) := by decide +kernel
theorem dL_law_1283 : decode cL_law 1283 = .ok (.aload_n 3, 1) := by decide +kernel
theorem dL_law_1284 : decode cL_law 1284 = .ok (.iconst 0, 1) := by decide +kernel
theorem dL_law_1285 : decode cL_law 1285 = .ok (.laload, 1) := by decide +kernel
theorem dL_law_1286 : decode cL_law 1286 = .ok (.iload 6, 2) := by decide +kernel
theorem dL_law_1288 : decode cL_law 1288 = .ok (.i2l, 1) := by decide +kernel
theorem dL_law_1289 : decode cL_law 1289 = .ok (.lcmp, 1) := by decide +kernel
theorem dL_law_1290 : decode cL_law 1290 = .ok (.ifCond .eq 5, 3) := by decide +kernel
theorem dL_law_1293 : decode cL_law 1293 = .ok (.iconst 0, 1) := by decide +kernel
theorem dL_law_1294 : decode cL_law 1294 = .ok (.ireturn, 1) := by decide +kernel
theorem dL_law_1295 : decode cL_law 1295 = .ok (.goto 263, 3) := by decide +kernel
theorem dL_law_1298 : decode cL_law 1298 = .ok (.aload_n 1, 1) := by decide +kernel
theorem dL_law_1299 : decode cL_law 1299 = .ok (.aload_n 0, 1) := by decide +kernel
theorem dL_law_1300 : decode cL_law 1300 = .ok (.iload 4, 2) := by decide +kernel
theorem dL_law_1302 : decode cL_law 1302 = .ok (.iconst 1, 1) := by decide +kernel
theorem dL_law_1303 : decode cL_law 1303 = .ok (.iadd, 1) := by decide +kernel
theorem dL_law_1304 : decode cL_law 1304 = .ok (.iaload, 1) := by decide +kernel
theorem dL_law_1305 : decode cL_law 1305 = .ok (.aload_n 3, 1) := by decide +kernel
theorem dL_law_1306 : decode cL_law 1306 = .ok (.invokestatic 151, 3) := by decide +kernel
theorem dL_law_1309 : decode cL_law 1309 = .ok (.istore 5, 2) := by decide +kernel
theorem dL_law_1311 : decode cL_law 1311 = .ok (.aload_n 2, 1) := by decide +kernel
theorem dL_law_1312 : decode cL_law 1312 = .ok (.aload_n 0, 1) := by decide +kernel
theorem dL_law_1313 : decode cL_law 1313 = .ok (.iload 4, 2) := by decide +kernel
theorem dL_law_1315 : decode cL_law 1315 = .ok (.iconst 1, 1) := by decide +kernel
theorem dL_law_1316 : decode cL_law 1316 = .ok (.iadd, 1) := by decide +kernel
theorem dL_law_1317 : decode cL_law 1317 = .ok (.iaload, 1) := by decide +kernel
theorem dL_law_1318 : decode cL_law 1318 = .ok (.invokevirtual 153, 3) := by decide +kernel
theorem dL_law_1321 : decode cL_law 1321 = .ok (.istore 6, 2) := by decide +kernel
theorem dL_law_1323 : decode cL_law 1323 = .ok (.aload_n 2, 1) := by decide +kernel
theorem dL_law_1324 : decode cL_law 1324 = .ok (.invokevirtual 89, 3) := by decide +kernel
theorem dL_law_1327 : decode cL_law 1327 = .ok (.iload 5, 2) := by decide +kernel
theorem dL_law_1329 : decode cL_law 1329 = .ok (.if_icmp .eq 5, 3) := by decide +kernel
theorem dL_law_1332 : decode cL_law 1332 = .ok (.iconst 0, 1) := by decide +kernel
theorem dL_law_1333 : decode cL_law 1333 = .ok (.ireturn, 1) := by decide +kernel
theorem dL_law_1334 : decode cL_law 1334 = .ok (.iload 5, 2) := by decide +kernel
theorem dL_law_1336 : decode cL_law 1336 = .ok (.ifCond .ne 15, 3) := by decide +kernel
theorem dL_law_1339 : decode cL_law 1339 = .ok (.aload_n 3, 1) := by decide +kernel
theorem dL_law_1340 : decode cL_law 1340 = .ok (.iconst 0, 1) := by decide +kernel
theorem dL_law_1341 : decode cL_law 1341 = .ok (.laload, 1) := by decide +kernel
theorem dL_law_1342 : decode cL_law 1342 = .ok (.iload 6, 2) := by decide +kernel
theorem dL_law_1344 : decode cL_law 1344 = .ok (.i2l, 1) := by decide +kernel
theorem dL_law_1345 : decode cL_law 1345 = .ok (.lcmp, 1) := by decide +kernel
theorem dL_law_1346 : decode cL_law 1346 = .ok (.ifCond .eq 5, 3) := by decide +kernel
theorem dL_law_1349 : decode cL_law 1349 = .ok (.iconst 0, 1) := by decide +kernel
theorem dL_law_1350 : decode cL_law 1350 = .ok (.ireturn, 1) := by decide +kernel
theorem dL_law_1351 : decode cL_law 1351 = .ok (.goto 207, 3) := by decide +kernel
theorem dL_law_1354 : decode cL_law 1354 = .ok (.aload_n 1, 1) := by decide +kernel
theorem dL_law_1355 : decode cL_law 1355 = .ok (.aload_n 0, 1) := by decide +kernel
theorem dL_law_1356 : decode cL_law 1356 = .ok (.iload 4, 2) := by decide +kernel
theorem dL_law_1358 : decode cL_law 1358 = .ok (.iconst 1, 1) := by decide +kernel
theorem dL_law_1359 : decode cL_law 1359 = .ok (.iadd, 1) := by decide +kernel
theorem dL_law_1360 : decode cL_law 1360 = .ok (.iaload, 1) := by decide +kernel
theorem dL_law_1361 : decode cL_law 1361 = .ok (.aload_n 0, 1) := by decide +kernel
theorem dL_law_1362 : decode cL_law 1362 = .ok (.iload 4, 2) := by decide +kernel
theorem dL_law_1364 : decode cL_law 1364 = .ok (.iconst 2, 1) := by decide +kernel
theorem dL_law_1365 : decode cL_law 1365 = .ok (.iadd, 1) := by decide +kernel
theorem dL_law_1366 : decode cL_law 1366 = .ok (.iaload, 1) := by decide +kernel
theorem dL_law_1367 : decode cL_law 1367 = .ok (.aload_n 0, 1) := by decide +kernel
theorem dL_law_1368 : decode cL_law 1368 = .ok (.iload 4, 2) := by decide +kernel
theorem dL_law_1370 : decode cL_law 1370 = .ok (.iconst 3, 1) := by decide +kernel
theorem dL_law_1371 : decode cL_law 1371 = .ok (.iadd, 1) := by decide +kernel
theorem dL_law_1372 : decode cL_law 1372 = .ok (.iaload, 1) := by decide +kernel
theorem dL_law_1373 : decode cL_law 1373 = .ok (.aload_n 3, 1) := by decide +kernel
theorem dL_law_1374 : decode cL_law 1374 = .ok (.invokestatic 154, 3) := by decide +kernel
theorem dL_law_1377 : decode cL_law 1377 = .ok (.istore 5, 2) := by decide +kernel
theorem dL_law_1379 : decode cL_law 1379 = .ok (.aload_n 2, 1) := by decide +kernel
theorem dL_law_1380 : decode cL_law 1380 = .ok (.aload_n 0, 1) := by decide +kernel
theorem dL_law_1381 : decode cL_law 1381 = .ok (.iload 4, 2) := by decide +kernel
theorem dL_law_1383 : decode cL_law 1383 = .ok (.iconst 1, 1) := by decide +kernel
theorem dL_law_1384 : decode cL_law 1384 = .ok (.iadd, 1) := by decide +kernel
theorem dL_law_1385 : decode cL_law 1385 = .ok (.iaload, 1) := by decide +kernel
theorem dL_law_1386 : decode cL_law 1386 = .ok (.aload_n 0, 1) := by decide +kernel
theorem dL_law_1387 : decode cL_law 1387 = .ok (.iload 4, 2) := by decide +kernel
theorem dL_law_1389 : decode cL_law 1389 = .ok (.iconst 2, 1) := by decide +kernel
theorem dL_law_1390 : decode cL_law 1390 = .ok (.iadd, 1) := by decide +kernel
theorem dL_law_1391 : decode cL_law 1391 = .ok (.iaload, 1) := by decide +kernel
theorem dL_law_1392 : decode cL_law 1392 = .ok (.aload_n 0, 1) := by decide +kernel
theorem dL_law_1393 : decode cL_law 1393 = .ok (.iload 4, 2) := by decide +kernel
theorem dL_law_1395 : decode cL_law 1395 = .ok (.iconst 3, 1) := by decide +kernel
theorem dL_law_1396 : decode cL_law 1396 = .ok (.iadd, 1) := by decide +kernel
theorem dL_law_1397 : decode cL_law 1397 = .ok (.iaload, 1) := by decide +kernel
theorem dL_law_1398 : decode cL_law 1398 = .ok (.invokevirtual 156, 3) := by decide +kernel
theorem dL_law_1401 : decode cL_law 1401 = .ok (.istore 6, 2) := by decide +kernel
theorem dL_law_1403 : decode cL_law 1403 = .ok (.aload_n 2, 1) := by decide +kernel
theorem dL_law_1404 : decode cL_law 1404 = .ok (.invokevirtual 89, 3) := by decide +kernel
theorem dL_law_1407 : decode cL_law 1407 = .ok (.iload 5, 2) := by decide +kernel
theorem dL_law_1409 : decode cL_law 1409 = .ok (.if_icmp .eq 5, 3) := by decide +kernel
theorem dL_law_1412 : decode cL_law 1412 = .ok (.iconst 0, 1) := by decide +kernel
theorem dL_law_1413 : decode cL_law 1413 = .ok (.ireturn, 1) := by decide +kernel
theorem dL_law_1414 : decode cL_law 1414 = .ok (.iload 5, 2) := by decide +kernel
theorem dL_law_1416 : decode cL_law 1416 = .ok (.ifCond .ne 15, 3) := by decide +kernel
theorem dL_law_1419 : decode cL_law 1419 = .ok (.aload_n 3, 1) := by decide +kernel
theorem dL_law_1420 : decode cL_law 1420 = .ok (.iconst 0, 1) := by decide +kernel
theorem dL_law_1421 : decode cL_law 1421 = .ok (.laload, 1) := by decide +kernel
theorem dL_law_1422 : decode cL_law 1422 = .ok (.iload 6, 2) := by decide +kernel
theorem dL_law_1424 : decode cL_law 1424 = .ok (.i2l, 1) := by decide +kernel
theorem dL_law_1425 : decode cL_law 1425 = .ok (.lcmp, 1) := by decide +kernel
theorem dL_law_1426 : decode cL_law 1426 = .ok (.ifCond .eq 5, 3) := by decide +kernel
theorem dL_law_1429 : decode cL_law 1429 = .ok (.iconst 0, 1) := by decide +kernel
theorem dL_law_1430 : decode cL_law 1430 = .ok (.ireturn, 1) := by decide +kernel
theorem dL_law_1431 : decode cL_law 1431 = .ok (.goto 127, 3) := by decide +kernel
theorem dL_law_1434 : decode cL_law 1434 = .ok (.aload_n 1, 1) := by decide +kernel
theorem dL_law_1435 : decode cL_law 1435 = .ok (.aload_n 0, 1) := by decide +kernel
theorem dL_law_1436 : decode cL_law 1436 = .ok (.iload 4, 2) := by decide +kernel
theorem dL_law_1438 : decode cL_law 1438 = .ok (.iconst 1, 1) := by decide +kernel
theorem dL_law_1439 : decode cL_law 1439 = .ok (.iadd, 1) := by decide +kernel
theorem dL_law_1440 : decode cL_law 1440 = .ok (.iaload, 1) := by decide +kernel
theorem dL_law_1441 : decode cL_law 1441 = .ok (.aload_n 3, 1) := by decide +kernel
theorem dL_law_1442 : decode cL_law 1442 = .ok (.invokestatic 157, 3) := by decide +kernel
theorem dL_law_1445 : decode cL_law 1445 = .ok (.istore 5, 2) := by decide +kernel
theorem dL_law_1447 : decode cL_law 1447 = .ok (.aload_n 2, 1) := by decide +kernel
theorem dL_law_1448 : decode cL_law 1448 = .ok (.aload_n 0, 1) := by decide +kernel
theorem dL_law_1449 : decode cL_law 1449 = .ok (.iload 4, 2) := by decide +kernel
theorem dL_law_1451 : decode cL_law 1451 = .ok (.iconst 1, 1) := by decide +kernel
theorem dL_law_1452 : decode cL_law 1452 = .ok (.iadd, 1) := by decide +kernel
theorem dL_law_1453 : decode cL_law 1453 = .ok (.iaload, 1) := by decide +kernel
theorem dL_law_1454 : decode cL_law 1454 = .ok (.invokevirtual 159, 3) := by decide +kernel
theorem dL_law_1457 : decode cL_law 1457 = .ok (.istore 6, 2) := by decide +kernel
theorem dL_law_1459 : decode cL_law 1459 = .ok (.aload_n 2, 1) := by decide +kernel
theorem dL_law_1460 : decode cL_law 1460 = .ok (.invokevirtual 89, 3) := by decide +kernel
theorem dL_law_1463 : decode cL_law 1463 = .ok (.iload 5, 2) := by decide +kernel
theorem dL_law_1465 : decode cL_law 1465 = .ok (.if_icmp .eq 5, 3) := by decide +kernel
theorem dL_law_1468 : decode cL_law 1468 = .ok (.iconst 0, 1) := by decide +kernel
theorem dL_law_1469 : decode cL_law 1469 = .ok (.ireturn, 1) := by decide +kernel
theorem dL_law_1470 : decode cL_law 1470 = .ok (.iload 5, 2) := by decide +kernel
theorem dL_law_1472 : decode cL_law 1472 = .ok (.ifCond .ne 15, 3) := by decide +kernel
theorem dL_law_1475 : decode cL_law 1475 = .ok (.aload_n 3, 1) := by decide +kernel
theorem dL_law_1476 : decode cL_law 1476 = .ok (.iconst 0, 1) := by decide +kernel
theorem dL_law_1477 : decode cL_law 1477 = .ok (.laload, 1) := by decide +kernel
theorem dL_law_1478 : decode cL_law 1478 = .ok (.iload 6, 2) := by decide +kernel
theorem dL_law_1480 : decode cL_law 1480 = .ok (.i2l, 1) := by decide +kernel
theorem dL_law_1481 : decode cL_law 1481 = .ok (.lcmp, 1) := by decide +kernel
theorem dL_law_1482 : decode cL_law 1482 = .ok (.ifCond .eq 5, 3) := by decide +kernel
theorem dL_law_1485 : decode cL_law 1485 = .ok (.iconst 0, 1) := by decide +kernel
theorem dL_law_1486 : decode cL_law 1486 = .ok (.ireturn, 1) := by decide +kernel
theorem dL_law_1487 : decode cL_law 1487 = .ok (.goto 71, 3) := by decide +kernel
theorem dL_law_1490 : decode cL_law 1490 = .ok (.aload_n 1, 1) := by decide +kernel
theorem dL_law_1491 : decode cL_law 1491 = .ok (.invokevirtual 160, 3) := by decide +kernel
theorem dL_law_1494 : decode cL_law 1494 = .ok (.aload_n 2, 1) := by decide +kernel
theorem dL_law_1495 : decode cL_law 1495 = .ok (.invokevirtual 163, 3) := by decide +kernel
theorem dL_law_1498 : decode cL_law 1498 = .ok (.if_icmp .eq 60, 3) := by decide +kernel
theorem dL_law_1501 : decode cL_law 1501 = .ok (.iconst 0, 1) := by decide +kernel
theorem dL_law_1502 : decode cL_law 1502 = .ok (.ireturn, 1) := by decide +kernel
theorem dL_law_1503 : decode cL_law 1503 = .ok (.aload_n 1, 1) := by decide +kernel
theorem dL_law_1504 : decode cL_law 1504 = .ok (.invokevirtual 164, 3) := by decide +kernel
theorem dL_law_1507 : decode cL_law 1507 = .ok (.dstore 5, 2) := by decide +kernel
theorem dL_law_1509 : decode cL_law 1509 = .ok (.aload_n 2, 1) := by decide +kernel
theorem dL_law_1510 : decode cL_law 1510 = .ok (.invokevirtual 168, 3) := by decide +kernel
theorem dL_law_1513 : decode cL_law 1513 = .ok (.dstore 7, 2) := by decide +kernel
theorem dL_law_1515 : decode cL_law 1515 = .ok (.dload 5, 2) := by decide +kernel
theorem dL_law_1517 : decode cL_law 1517 = .ok (.dload 7, 2) := by decide +kernel
theorem dL_law_1519 : decode cL_law 1519 = .ok (.dcmp .l, 1) := by decide +kernel
theorem dL_law_1520 : decode cL_law 1520 = .ok (.ifCond .eq 21, 3) := by decide +kernel
theorem dL_law_1523 : decode cL_law 1523 = .ok (.dload 5, 2) := by decide +kernel
theorem dL_law_1525 : decode cL_law 1525 = .ok (.dload 5, 2) := by decide +kernel
theorem dL_law_1527 : decode cL_law 1527 = .ok (.dcmp .l, 1) := by decide +kernel
theorem dL_law_1528 : decode cL_law 1528 = .ok (.ifCond .eq 11, 3) := by decide +kernel
theorem dL_law_1531 : decode cL_law 1531 = .ok (.dload 7, 2) := by decide +kernel
theorem dL_law_1533 : decode cL_law 1533 = .ok (.dload 7, 2) := by decide +kernel
theorem dL_law_1535 : decode cL_law 1535 = .ok (.dcmp .l, 1) := by decide +kernel
theorem dL_law_1536 : decode cL_law 1536 = .ok (.ifCond .ne 5, 3) := by decide +kernel
theorem dL_law_1539 : decode cL_law 1539 = .ok (.iconst 0, 1) := by decide +kernel
theorem dL_law_1540 : decode cL_law 1540 = .ok (.ireturn, 1) := by decide +kernel
theorem dL_law_1541 : decode cL_law 1541 = .ok (.goto 17, 3) := by decide +kernel
theorem dL_law_1544 : decode cL_law 1544 = .ok (.aload_n 1, 1) := by decide +kernel
theorem dL_law_1545 : decode cL_law 1545 = .ok (.invokevirtual 169, 3) := by decide +kernel
theorem dL_law_1548 : decode cL_law 1548 = .ok (.aload_n 2, 1) := by decide +kernel
theorem dL_law_1549 : decode cL_law 1549 = .ok (.invokevirtual 173, 3) := by decide +kernel
theorem dL_law_1552 : decode cL_law 1552 = .ok (.lcmp, 1) := by decide +kernel
theorem dL_law_1553 : decode cL_law 1553 = .ok (.ifCond .eq 5, 3) := by decide +kernel
theorem dL_law_1556 : decode cL_law 1556 = .ok (.iconst 0, 1) := by decide +kernel
theorem dL_law_1557 : decode cL_law 1557 = .ok (.ireturn, 1) := by decide +kernel
theorem dL_law_1558 : decode cL_law 1558 = .ok (.iinc 4 4, 3) := by decide +kernel
theorem dL_law_1561 : decode cL_law 1561 = .ok (.goto (-1538), 3) := by decide +kernel
theorem dL_law_1564 : decode cL_law 1564 = .ok (.iconst 1, 1) := by decide +kernel
theorem dL_law_1565 : decode cL_law 1565 = .ok (.ireturn, 1) := by decide +kernel
