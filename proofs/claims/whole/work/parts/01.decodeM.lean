theorem dX7_init_0 : decode cX7_init 0 = .ok (.aload_n 0, 1) := by decide +kernel
theorem dX7_init_1 : decode cX7_init 1 = .ok (.invokespecial 1, 3) := by decide +kernel
theorem dX7_init_4 : decode cX7_init 4 = .ok (.aload_n 0, 1) := by decide +kernel
theorem dX7_init_5 : decode cX7_init 5 = .ok (.sipush 287, 3) := by decide +kernel
theorem dX7_init_8 : decode cX7_init 8 = .ok (.newarray .int, 2) := by decide +kernel
theorem dX7_init_10 : decode cX7_init 10 = .ok (.putfield 7, 3) := by decide +kernel
theorem dX7_init_13 : decode cX7_init 13 = .ok (.aload_n 0, 1) := by decide +kernel
theorem dX7_init_14 : decode cX7_init 14 = .ok (.sipush 1148, 3) := by decide +kernel
theorem dX7_init_17 : decode cX7_init 17 = .ok (.newarray .int, 2) := by decide +kernel
theorem dX7_init_19 : decode cX7_init 19 = .ok (.putfield 13, 3) := by decide +kernel
theorem dX7_init_22 : decode cX7_init 22 = .ok (.aload_n 0, 1) := by decide +kernel
theorem dX7_init_23 : decode cX7_init 23 = .ok (.sipush 287, 3) := by decide +kernel
theorem dX7_init_26 : decode cX7_init 26 = .ok (.newarray .int, 2) := by decide +kernel
theorem dX7_init_28 : decode cX7_init 28 = .ok (.putfield 16, 3) := by decide +kernel
theorem dX7_init_31 : decode cX7_init 31 = .ok (.aload_n 0, 1) := by decide +kernel
theorem dX7_init_32 : decode cX7_init 32 = .ok (.sipush 287, 3) := by decide +kernel
theorem dX7_init_35 : decode cX7_init 35 = .ok (.newarray .int, 2) := by decide +kernel
theorem dX7_init_37 : decode cX7_init 37 = .ok (.putfield 19, 3) := by decide +kernel
theorem dX7_init_40 : decode cX7_init 40 = .ok (.aload_n 0, 1) := by decide +kernel
theorem dX7_init_41 : decode cX7_init 41 = .ok (.bipush 80, 2) := by decide +kernel
theorem dX7_init_43 : decode cX7_init 43 = .ok (.newarray .int, 2) := by decide +kernel
theorem dX7_init_45 : decode cX7_init 45 = .ok (.putfield 22, 3) := by decide +kernel
theorem dX7_init_48 : decode cX7_init 48 = .ok (.aload_n 0, 1) := by decide +kernel
theorem dX7_init_49 : decode cX7_init 49 = .ok (.bipush 7, 2) := by decide +kernel
theorem dX7_init_51 : decode cX7_init 51 = .ok (.newarray .long, 2) := by decide +kernel
theorem dX7_init_53 : decode cX7_init 53 = .ok (.putfield 25, 3) := by decide +kernel
theorem dX7_init_56 : decode cX7_init 56 = .ok (.aload_n 0, 1) := by decide +kernel
theorem dX7_init_57 : decode cX7_init 57 = .ok (.bipush 7, 2) := by decide +kernel
theorem dX7_init_59 : decode cX7_init 59 = .ok (.newarray .int, 2) := by decide +kernel
theorem dX7_init_61 : decode cX7_init 61 = .ok (.putfield 29, 3) := by decide +kernel
theorem dX7_init_64 : decode cX7_init 64 = .ok (.aload_n 0, 1) := by decide +kernel
theorem dX7_init_65 : decode cX7_init 65 = .ok (.iconst 5, 1) := by decide +kernel
theorem dX7_init_66 : decode cX7_init 66 = .ok (.newarray .int, 2) := by decide +kernel
theorem dX7_init_68 : decode cX7_init 68 = .ok (.putfield 32, 3) := by decide +kernel
theorem dX7_init_71 : decode cX7_init 71 = .ok (.aload_n 0, 1) := by decide +kernel
theorem dX7_init_72 : decode cX7_init 72 = .ok (.getfield 7, 3) := by decide +kernel
theorem dX7_init_75 : decode cX7_init 75 = .ok (.iconst 0, 1) := by decide +kernel
theorem dX7_init_76 : decode cX7_init 76 = .ok (.iconst 3, 1) := by decide +kernel
theorem dX7_init_77 : decode cX7_init 77 = .ok (.iastore, 1) := by decide +kernel
theorem dX7_init_78 : decode cX7_init 78 = .ok (.aload_n 0, 1) := by decide +kernel
theorem dX7_init_79 : decode cX7_init 79 = .ok (.getfield 7, 3) := by decide +kernel
theorem dX7_init_82 : decode cX7_init 82 = .ok (.iconst 1, 1) := by decide +kernel
theorem dX7_init_83 : decode cX7_init 83 = .ok (.bipush 8, 2) := by decide +kernel
theorem dX7_init_85 : decode cX7_init 85 = .ok (.iastore, 1) := by decide +kernel
theorem dX7_init_86 : decode cX7_init 86 = .ok (.aload_n 0, 1) := by decide +kernel
theorem dX7_init_87 : decode cX7_init 87 = .ok (.getfield 7, 3) := by decide +kernel
theorem dX7_init_90 : decode cX7_init 90 = .ok (.iconst 2, 1) := by decide +kernel
theorem dX7_init_91 : decode cX7_init 91 = .ok (.iconst 1, 1) := by decide +kernel
theorem dX7_init_92 : decode cX7_init 92 = .ok (.iastore, 1) := by decide +kernel
theorem dX7_init_93 : decode cX7_init 93 = .ok (.aload_n 0, 1) := by decide +kernel
theorem dX7_init_94 : decode cX7_init 94 = .ok (.getfield 25, 3) := by decide +kernel
theorem dX7_init_97 : decode cX7_init 97 = .ok (.iconst 0, 1) := by decide +kernel
theorem dX7_init_98 : decode cX7_init 98 = .ok (.ldc2_w 35, 3) := by decide +kernel
theorem dX7_init_101 : decode cX7_init 101 = .ok (.lastore, 1) := by decide +kernel
theorem dX7_init_102 : decode cX7_init 102 = .ok (.aload_n 0, 1) := by decide +kernel
theorem dX7_init_103 : decode cX7_init 103 = .ok (.getfield 25, 3) := by decide +kernel
theorem dX7_init_106 : decode cX7_init 106 = .ok (.iconst 1, 1) := by decide +kernel
theorem dX7_init_107 : decode cX7_init 107 = .ok (.ldc2_w 37, 3) := by decide +kernel
theorem dX7_init_110 : decode cX7_init 110 = .ok (.lastore, 1) := by decide +kernel
theorem dX7_init_111 : decode cX7_init 111 = .ok (.aload_n 0, 1) := by decide +kernel
theorem dX7_init_112 : decode cX7_init 112 = .ok (.getfield 25, 3) := by decide +kernel
theorem dX7_init_115 : decode cX7_init 115 = .ok (.iconst 2, 1) := by decide +kernel
theorem dX7_init_116 : decode cX7_init 116 = .ok (.ldc2_w 39, 3) := by decide +kernel
theorem dX7_init_119 : decode cX7_init 119 = .ok (.lastore, 1) := by decide +kernel
theorem dX7_init_120 : decode cX7_init 120 = .ok (.aload_n 0, 1) := by decide +kernel
theorem dX7_init_121 : decode cX7_init 121 = .ok (.getfield 25, 3) := by decide +kernel
theorem dX7_init_124 : decode cX7_init 124 = .ok (.iconst 3, 1) := by decide +kernel
theorem dX7_init_125 : decode cX7_init 125 = .ok (.ldc2_w 41, 3) := by decide +kernel
theorem dX7_init_128 : decode cX7_init 128 = .ok (.lastore, 1) := by decide +kernel
theorem dX7_init_129 : decode cX7_init 129 = .ok (.aload_n 0, 1) := by decide +kernel
theorem dX7_init_130 : decode cX7_init 130 = .ok (.getfield 25, 3) := by decide +kernel
theorem dX7_init_133 : decode cX7_init 133 = .ok (.iconst 4, 1) := by decide +kernel
theorem dX7_init_134 : decode cX7_init 134 = .ok (.ldc2_w 43, 3) := by decide +kernel
theorem dX7_init_137 : decode cX7_init 137 = .ok (.lastore, 1) := by decide +kernel
theorem dX7_init_138 : decode cX7_init 138 = .ok (.aload_n 0, 1) := by decide +kernel
theorem dX7_init_139 : decode cX7_init 139 = .ok (.getfield 25, 3) := by decide +kernel
theorem dX7_init_142 : decode cX7_init 142 = .ok (.iconst 5, 1) := by decide +kernel
theorem dX7_init_143 : decode cX7_init 143 = .ok (.ldc2_w 45, 3) := by decide +kernel
theorem dX7_init_146 : decode cX7_init 146 = .ok (.lastore, 1) := by decide +kernel
theorem dX7_init_147 : decode cX7_init 147 = .ok (.aload_n 0, 1) := by decide +kernel
theorem dX7_init_148 : decode cX7_init 148 = .ok (.getfield 25, 3) := by decide +kernel
theorem dX7_init_151 : decode cX7_init 151 = .ok (.bipush 6, 2) := by decide +kernel
theorem dX7_init_153 : decode cX7_init 153 = .ok (.ldc2_w 47, 3) := by decide +kernel
theorem dX7_init_156 : decode cX7_init 156 = .ok (.lastore, 1) := by decide +kernel
theorem dX7_init_157 : decode cX7_init 157 = .ok (.aload_n 0, 1) := by decide +kernel
theorem dX7_init_158 : decode cX7_init 158 = .ok (.getfield 29, 3) := by decide +kernel
theorem dX7_init_161 : decode cX7_init 161 = .ok (.iconst 0, 1) := by decide +kernel
theorem dX7_init_162 : decode cX7_init 162 = .ok (.iconst 2, 1) := by decide +kernel
theorem dX7_init_163 : decode cX7_init 163 = .ok (.iastore, 1) := by decide +kernel
theorem dX7_init_164 : decode cX7_init 164 = .ok (.aload_n 0, 1) := by decide +kernel
theorem dX7_init_165 : decode cX7_init 165 = .ok (.getfield 29, 3) := by decide +kernel
theorem dX7_init_168 : decode cX7_init 168 = .ok (.iconst 1, 1) := by decide +kernel
theorem dX7_init_169 : decode cX7_init 169 = .ok (.iconst 3, 1) := by decide +kernel
theorem dX7_init_170 : decode cX7_init 170 = .ok (.iastore, 1) := by decide +kernel
theorem dX7_init_171 : decode cX7_init 171 = .ok (.aload_n 0, 1) := by decide +kernel
theorem dX7_init_172 : decode cX7_init 172 = .ok (.getfield 29, 3) := by decide +kernel
theorem dX7_init_175 : decode cX7_init 175 = .ok (.iconst 2, 1) := by decide +kernel
theorem dX7_init_176 : decode cX7_init 176 = .ok (.iconst 1, 1) := by decide +kernel
theorem dX7_init_177 : decode cX7_init 177 = .ok (.iastore, 1) := by decide +kernel
theorem dX7_init_178 : decode cX7_init 178 = .ok (.aload_n 0, 1) := by decide +kernel
theorem dX7_init_179 : decode cX7_init 179 = .ok (.getfield 29, 3) := by decide +kernel
theorem dX7_init_182 : decode cX7_init 182 = .ok (.iconst 3, 1) := by decide +kernel
theorem dX7_init_183 : decode cX7_init 183 = .ok (.iconst 3, 1) := by decide +kernel
theorem dX7_init_184 : decode cX7_init 184 = .ok (.iastore, 1) := by decide +kernel
theorem dX7_init_185 : decode cX7_init 185 = .ok (.aload_n 0, 1) := by decide +kernel
theorem dX7_init_186 : decode cX7_init 186 = .ok (.getfield 29, 3) := by decide +kernel
theorem dX7_init_189 : decode cX7_init 189 = .ok (.iconst 4, 1) := by decide +kernel
theorem dX7_init_190 : decode cX7_init 190 = .ok (.iconst 2, 1) := by decide +kernel
theorem dX7_init_191 : decode cX7_init 191 = .ok (.iastore, 1) := by decide +kernel
theorem dX7_init_192 : decode cX7_init 192 = .ok (.aload_n 0, 1) := by decide +kernel
theorem dX7_init_193 : decode cX7_init 193 = .ok (.getfield 29, 3) := by decide +kernel
theorem dX7_init_196 : decode cX7_init 196 = .ok (.iconst 5, 1) := by decide +kernel
theorem dX7_init_197 : decode cX7_init 197 = .ok (.iconst 5, 1) := by decide +kernel
theorem dX7_init_198 : decode cX7_init 198 = .ok (.iastore, 1) := by decide +kernel
theorem dX7_init_199 : decode cX7_init 199 = .ok (.aload_n 0, 1) := by decide +kernel
theorem dX7_init_200 : decode cX7_init 200 = .ok (.getfield 29, 3) := by decide +kernel
theorem dX7_init_203 : decode cX7_init 203 = .ok (.bipush 6, 2) := by decide +kernel
theorem dX7_init_205 : decode cX7_init 205 = .ok (.iconst 1, 1) := by decide +kernel
theorem dX7_init_206 : decode cX7_init 206 = .ok (.iastore, 1) := by decide +kernel
theorem dX7_init_207 : decode cX7_init 207 = .ok (.return_, 1) := by decide +kernel
theorem dX7_in_0 : decode cX7_in 0 = .ok (.iload_n 0, 1) := by decide +kernel
theorem dX7_in_1 : decode cX7_in 1 = .ok (.iload_n 1, 1) := by decide +kernel
theorem dX7_in_2 : decode cX7_in 2 = .ok (.if_icmp .lt 12, 3) := by decide +kernel
theorem dX7_in_5 : decode cX7_in 5 = .ok (.iload_n 0, 1) := by decide +kernel
theorem dX7_in_6 : decode cX7_in 6 = .ok (.iload_n 2, 1) := by decide +kernel
theorem dX7_in_7 : decode cX7_in 7 = .ok (.if_icmp .gt 7, 3) := by decide +kernel
theorem dX7_in_10 : decode cX7_in 10 = .ok (.iconst 1, 1) := by decide +kernel
theorem dX7_in_11 : decode cX7_in 11 = .ok (.goto 4, 3) := by decide +kernel
theorem dX7_in_14 : decode cX7_in 14 = .ok (.iconst 0, 1) := by decide +kernel
theorem dX7_in_15 : decode cX7_in 15 = .ok (.ireturn, 1) := by decide +kernel
theorem dX7_copies_0 : decode cX7_copies 0 = .ok (.iconst 0, 1) := by decide +kernel
theorem dX7_copies_1 : decode cX7_copies 1 = .ok (.istore_n 2, 1) := by decide +kernel
theorem dX7_copies_2 : decode cX7_copies 2 = .ok (.iload_n 2, 1) := by decide +kernel
theorem dX7_copies_3 : decode cX7_copies 3 = .ok (.sipush 287, 3) := by decide +kernel
theorem dX7_copies_6 : decode cX7_copies 6 = .ok (.if_icmp .ge 15, 3) := by decide +kernel
theorem dX7_copies_9 : decode cX7_copies 9 = .ok (.aload_n 1, 1) := by decide +kernel
theorem dX7_copies_10 : decode cX7_copies 10 = .ok (.iload_n 2, 1) := by decide +kernel
theorem dX7_copies_11 : decode cX7_copies 11 = .ok (.aload_n 0, 1) := by decide +kernel
theorem dX7_copies_12 : decode cX7_copies 12 = .ok (.iload_n 2, 1) := by decide +kernel
theorem dX7_copies_13 : decode cX7_copies 13 = .ok (.iaload, 1) := by decide +kernel
theorem dX7_copies_14 : decode cX7_copies 14 = .ok (.iastore, 1) := by decide +kernel
theorem dX7_copies_15 : decode cX7_copies 15 = .ok (.iinc 2 1, 3) := by decide +kernel
theorem dX7_copies_18 : decode cX7_copies 18 = .ok (.goto (-16), 3) := by decide +kernel
theorem dX7_copies_21 : decode cX7_copies 21 = .ok (.return_, 1) := by decide +kernel
theorem dX7_changes_0 : decode cX7_changes 0 = .ok (.aload_n 0, 1) := by decide +kernel
theorem dX7_changes_1 : decode cX7_changes 1 = .ok (.getfield 49, 3) := by decide +kernel
theorem dX7_changes_4 : decode cX7_changes 4 = .ok (.ifCond .eq 4, 3) := by decide +kernel
theorem dX7_changes_7 : decode cX7_changes 7 = .ok (.return_, 1) := by decide +kernel
theorem dX7_changes_8 : decode cX7_changes 8 = .ok (.aload_n 0, 1) := by decide +kernel
theorem dX7_changes_9 : decode cX7_changes 9 = .ok (.getfield 53, 3) := by decide +kernel
theorem dX7_changes_12 : decode cX7_changes 12 = .ok (.iconst 4, 1) := by decide +kernel
theorem dX7_changes_13 : decode cX7_changes 13 = .ok (.if_icmp .ne 44, 3) := by decide +kernel
theorem dX7_changes_16 : decode cX7_changes 16 = .ok (.iconst 0, 1) := by decide +kernel
theorem dX7_changes_17 : decode cX7_changes 17 = .ok (.istore_n 1, 1) := by decide +kernel
theorem dX7_changes_18 : decode cX7_changes 18 = .ok (.iload_n 1, 1) := by decide +kernel
theorem dX7_changes_19 : decode cX7_changes 19 = .ok (.sipush 861, 3) := by decide +kernel
theorem dX7_changes_22 : decode cX7_changes 22 = .ok (.if_icmp .ge 25, 3) := by decide +kernel
theorem dX7_changes_25 : decode cX7_changes 25 = .ok (.aload_n 0, 1) := by decide +kernel
theorem dX7_changes_26 : decode cX7_changes 26 = .ok (.getfield 13, 3) := by decide +kernel
theorem dX7_changes_29 : decode cX7_changes 29 = .ok (.iload_n 1, 1) := by decide +kernel
theorem dX7_changes_30 : decode cX7_changes 30 = .ok (.aload_n 0, 1) := by decide +kernel
theorem dX7_changes_31 : decode cX7_changes 31 = .ok (.getfield 13, 3) := by decide +kernel
theorem dX7_changes_34 : decode cX7_changes 34 = .ok (.iload_n 1, 1) := by decide +kernel
theorem dX7_changes_35 : decode cX7_changes 35 = .ok (.sipush 287, 3) := by decide +kernel
theorem dX7_changes_38 : decode cX7_changes 38 = .ok (.iadd, 1) := by decide +kernel
theorem dX7_changes_39 : decode cX7_changes 39 = .ok (.iaload, 1) := by decide +kernel
theorem dX7_changes_40 : decode cX7_changes 40 = .ok (.iastore, 1) := by decide +kernel
theorem dX7_changes_41 : decode cX7_changes 41 = .ok (.iinc 1 1, 3) := by decide +kernel
theorem dX7_changes_44 : decode cX7_changes 44 = .ok (.goto (-26), 3) := by decide +kernel
theorem dX7_changes_47 : decode cX7_changes 47 = .ok (.aload_n 0, 1) := by decide +kernel
theorem dX7_changes_48 : decode cX7_changes 48 = .ok (.dup, 1) := by decide +kernel
theorem dX7_changes_49 : decode cX7_changes 49 = .ok (.getfield 53, 3) := by decide +kernel
theorem dX7_changes_52 : decode cX7_changes 52 = .ok (.iconst 1, 1) := by decide +kernel
theorem dX7_changes_53 : decode cX7_changes 53 = .ok (.isub, 1) := by decide +kernel
theorem dX7_changes_54 : decode cX7_changes 54 = .ok (.putfield 53, 3) := by decide +kernel
theorem dX7_changes_57 : decode cX7_changes 57 = .ok (.iconst 0, 1) := by decide +kernel
theorem dX7_changes_58 : decode cX7_changes 58 = .ok (.istore_n 1, 1) := by decide +kernel
theorem dX7_changes_59 : decode cX7_changes 59 = .ok (.iload_n 1, 1) := by decide +kernel
theorem dX7_changes_60 : decode cX7_changes 60 = .ok (.sipush 287, 3) := by decide +kernel
theorem dX7_changes_63 : decode cX7_changes 63 = .ok (.if_icmp .ge 30, 3) := by decide +kernel
theorem dX7_changes_66 : decode cX7_changes 66 = .ok (.aload_n 0, 1) := by decide +kernel
theorem dX7_changes_67 : decode cX7_changes 67 = .ok (.getfield 13, 3) := by decide +kernel
theorem dX7_changes_70 : decode cX7_changes 70 = .ok (.sipush 287, 3) := by decide +kernel
theorem dX7_changes_73 : decode cX7_changes 73 = .ok (.aload_n 0, 1) := by decide +kernel
theorem dX7_changes_74 : decode cX7_changes 74 = .ok (.getfield 53, 3) := by decide +kernel
theorem dX7_changes_77 : decode cX7_changes 77 = .ok (.imul, 1) := by decide +kernel
theorem dX7_changes_78 : decode cX7_changes 78 = .ok (.iload_n 1, 1) := by decide +kernel
theorem dX7_changes_79 : decode cX7_changes 79 = .ok (.iadd, 1) := by decide +kernel
theorem dX7_changes_80 : decode cX7_changes 80 = .ok (.aload_n 0, 1) := by decide +kernel
theorem dX7_changes_81 : decode cX7_changes 81 = .ok (.getfield 7, 3) := by decide +kernel
theorem dX7_changes_84 : decode cX7_changes 84 = .ok (.iload_n 1, 1) := by decide +kernel
theorem dX7_changes_85 : decode cX7_changes 85 = .ok (.iaload, 1) := by decide +kernel
theorem dX7_changes_86 : decode cX7_changes 86 = .ok (.iastore, 1) := by decide +kernel
theorem dX7_changes_87 : decode cX7_changes 87 = .ok (.iinc 1 1, 3) := by decide +kernel
theorem dX7_changes_90 : decode cX7_changes 90 = .ok (.goto (-31), 3) := by decide +kernel
theorem dX7_changes_93 : decode cX7_changes 93 = .ok (.aload_n 0, 1) := by decide +kernel
theorem dX7_changes_94 : decode cX7_changes 94 = .ok (.dup, 1) := by decide +kernel
theorem dX7_changes_95 : decode cX7_changes 95 = .ok (.getfield 53, 3) := by decide +kernel
theorem dX7_changes_98 : decode cX7_changes 98 = .ok (.iconst 1, 1) := by decide +kernel
theorem dX7_changes_99 : decode cX7_changes 99 = .ok (.iadd, 1) := by decide +kernel
theorem dX7_changes_100 : decode cX7_changes 100 = .ok (.putfield 53, 3) := by decide +kernel
theorem dX7_changes_103 : decode cX7_changes 103 = .ok (.return_, 1) := by decide +kernel
theorem dX7_of_0 : decode cX7_of 0 = .ok (.aload_n 0, 1) := by decide +kernel
theorem dX7_of_1 : decode cX7_of 1 = .ok (.getfield 7, 3) := by decide +kernel
theorem dX7_of_4 : decode cX7_of 4 = .ok (.bipush 13, 2) := by decide +kernel
theorem dX7_of_6 : decode cX7_of 6 = .ok (.bipush 12, 2) := by decide +kernel
theorem dX7_of_8 : decode cX7_of 8 = .ok (.iload_n 1, 1) := by decide +kernel
theorem dX7_of_9 : decode cX7_of 9 = .ok (.imul, 1) := by decide +kernel
theorem dX7_of_10 : decode cX7_of 10 = .ok (.iadd, 1) := by decide +kernel
theorem dX7_of_11 : decode cX7_of 11 = .ok (.iload_n 2, 1) := by decide +kernel
theorem dX7_of_12 : decode cX7_of 12 = .ok (.iadd, 1) := by decide +kernel
theorem dX7_of_13 : decode cX7_of 13 = .ok (.iaload, 1) := by decide +kernel
theorem dX7_of_14 : decode cX7_of 14 = .ok (.ireturn, 1) := by decide +kernel
theorem dX7_puts_0 : decode cX7_puts 0 = .ok (.aload_n 0, 1) := by decide +kernel
theorem dX7_puts_1 : decode cX7_puts 1 = .ok (.getfield 7, 3) := by decide +kernel
theorem dX7_puts_4 : decode cX7_puts 4 = .ok (.bipush 13, 2) := by decide +kernel
theorem dX7_puts_6 : decode cX7_puts 6 = .ok (.bipush 12, 2) := by decide +kernel
theorem dX7_puts_8 : decode cX7_puts 8 = .ok (.iload_n 1, 1) := by decide +kernel
theorem dX7_puts_9 : decode cX7_puts 9 = .ok (.imul, 1) := by decide +kernel
theorem dX7_puts_10 : decode cX7_puts 10 = .ok (.iadd, 1) := by decide +kernel
theorem dX7_puts_11 : decode cX7_puts 11 = .ok (.iload_n 2, 1) := by decide +kernel
theorem dX7_puts_12 : decode cX7_puts 12 = .ok (.iadd, 1) := by decide +kernel
theorem dX7_puts_13 : decode cX7_puts 13 = .ok (.iload_n 3, 1) := by decide +kernel
theorem dX7_puts_14 : decode cX7_puts 14 = .ok (.iastore, 1) := by decide +kernel
theorem dX7_puts_15 : decode cX7_puts 15 = .ok (.return_, 1) := by decide +kernel
theorem dX7_ofVehicle_0 : decode cX7_ofVehicle 0 = .ok (.aload_n 0, 1) := by decide +kernel
theorem dX7_ofVehicle_1 : decode cX7_ofVehicle 1 = .ok (.getfield 7, 3) := by decide +kernel
theorem dX7_ofVehicle_4 : decode cX7_ofVehicle 4 = .ok (.sipush 205, 3) := by decide +kernel
theorem dX7_ofVehicle_7 : decode cX7_ofVehicle 7 = .ok (.bipush 8, 2) := by decide +kernel
theorem dX7_ofVehicle_9 : decode cX7_ofVehicle 9 = .ok (.iload_n 1, 1) := by decide +kernel
theorem dX7_ofVehicle_10 : decode cX7_ofVehicle 10 = .ok (.imul, 1) := by decide +kernel
theorem dX7_ofVehicle_11 : decode cX7_ofVehicle 11 = .ok (.iadd, 1) := by decide +kernel
theorem dX7_ofVehicle_12 : decode cX7_ofVehicle 12 = .ok (.iload_n 2, 1) := by decide +kernel
theorem dX7_ofVehicle_13 : decode cX7_ofVehicle 13 = .ok (.iadd, 1) := by decide +kernel
theorem dX7_ofVehicle_14 : decode cX7_ofVehicle 14 = .ok (.iaload, 1) := by decide +kernel
theorem dX7_ofVehicle_15 : decode cX7_ofVehicle 15 = .ok (.ireturn, 1) := by decide +kernel
theorem dX7_putsVehicle_0 : decode cX7_putsVehicle 0 = .ok (.aload_n 0, 1) := by decide +kernel
theorem dX7_putsVehicle_1 : decode cX7_putsVehicle 1 = .ok (.getfield 7, 3) := by decide +kernel
theorem dX7_putsVehicle_4 : decode cX7_putsVehicle 4 = .ok (.sipush 205, 3) := by decide +kernel
theorem dX7_putsVehicle_7 : decode cX7_putsVehicle 7 = .ok (.bipush 8, 2) := by decide +kernel
theorem dX7_putsVehicle_9 : decode cX7_putsVehicle 9 = .ok (.iload_n 1, 1) := by decide +kernel
theorem dX7_putsVehicle_10 : decode cX7_putsVehicle 10 = .ok (.imul, 1) := by decide +kernel
theorem dX7_putsVehicle_11 : decode cX7_putsVehicle 11 = .ok (.iadd, 1) := by decide +kernel
theorem dX7_putsVehicle_12 : decode cX7_putsVehicle 12 = .ok (.iload_n 2, 1) := by decide +kernel
theorem dX7_putsVehicle_13 : decode cX7_putsVehicle 13 = .ok (.iadd, 1) := by decide +kernel
theorem dX7_putsVehicle_14 : decode cX7_putsVehicle 14 = .ok (.iload_n 3, 1) := by decide +kernel
theorem dX7_putsVehicle_15 : decode cX7_putsVehicle 15 = .ok (.iastore, 1) := by decide +kernel
theorem dX7_putsVehicle_16 : decode cX7_putsVehicle 16 = .ok (.return_, 1) := by decide +kernel
theorem dX7_ofOffer_0 : decode cX7_ofOffer 0 = .ok (.aload_n 0, 1) := by decide +kernel
theorem dX7_ofOffer_1 : decode cX7_ofOffer 1 = .ok (.getfield 7, 3) := by decide +kernel
theorem dX7_ofOffer_4 : decode cX7_ofOffer 4 = .ok (.sipush 237, 3) := by decide +kernel
theorem dX7_ofOffer_7 : decode cX7_ofOffer 7 = .ok (.iconst 5, 1) := by decide +kernel
theorem dX7_ofOffer_8 : decode cX7_ofOffer 8 = .ok (.iload_n 1, 1) := by decide +kernel
theorem dX7_ofOffer_9 : decode cX7_ofOffer 9 = .ok (.imul, 1) := by decide +kernel
theorem dX7_ofOffer_10 : decode cX7_ofOffer 10 = .ok (.iadd, 1) := by decide +kernel
theorem dX7_ofOffer_11 : decode cX7_ofOffer 11 = .ok (.iload_n 2, 1) := by decide +kernel
theorem dX7_ofOffer_12 : decode cX7_ofOffer 12 = .ok (.iadd, 1) := by decide +kernel
theorem dX7_ofOffer_13 : decode cX7_ofOffer 13 = .ok (.iaload, 1) := by decide +kernel
theorem dX7_ofOffer_14 : decode cX7_ofOffer 14 = .ok (.ireturn, 1) := by decide +kernel
theorem dX7_isGoods_0 : decode cX7_isGoods 0 = .ok (.iload_n 1, 1) := by decide +kernel
theorem dX7_isGoods_1 : decode cX7_isGoods 1 = .ok (.ifCond .lt 28, 3) := by decide +kernel
theorem dX7_isGoods_4 : decode cX7_isGoods 4 = .ok (.iload_n 1, 1) := by decide +kernel
theorem dX7_isGoods_5 : decode cX7_isGoods 5 = .ok (.aload_n 0, 1) := by decide +kernel
theorem dX7_isGoods_6 : decode cX7_isGoods 6 = .ok (.getfield 7, 3) := by decide +kernel
theorem dX7_isGoods_9 : decode cX7_isGoods 9 = .ok (.iconst 3, 1) := by decide +kernel
theorem dX7_isGoods_10 : decode cX7_isGoods 10 = .ok (.iaload, 1) := by decide +kernel
theorem dX7_isGoods_11 : decode cX7_isGoods 11 = .ok (.if_icmp .ge 18, 3) := by decide +kernel
theorem dX7_isGoods_14 : decode cX7_isGoods 14 = .ok (.aload_n 0, 1) := by decide +kernel
theorem dX7_isGoods_15 : decode cX7_isGoods 15 = .ok (.iload_n 1, 1) := by decide +kernel
theorem dX7_isGoods_16 : decode cX7_isGoods 16 = .ok (.bipush 6, 2) := by decide +kernel
theorem dX7_isGoods_18 : decode cX7_isGoods 18 = .ok (.invokevirtual 57, 3) := by decide +kernel
theorem dX7_isGoods_21 : decode cX7_isGoods 21 = .ok (.iconst 5, 1) := by decide +kernel
theorem dX7_isGoods_22 : decode cX7_isGoods 22 = .ok (.if_icmp .eq 7, 3) := by decide +kernel
theorem dX7_isGoods_25 : decode cX7_isGoods 25 = .ok (.iconst 1, 1) := by decide +kernel
theorem dX7_isGoods_26 : decode cX7_isGoods 26 = .ok (.goto 4, 3) := by decide +kernel
theorem dX7_isGoods_29 : decode cX7_isGoods 29 = .ok (.iconst 0, 1) := by decide +kernel
theorem dX7_isGoods_30 : decode cX7_isGoods 30 = .ok (.ireturn, 1) := by decide +kernel
theorem dX7_isVehicle_0 : decode cX7_isVehicle 0 = .ok (.iload_n 1, 1) := by decide +kernel
theorem dX7_isVehicle_1 : decode cX7_isVehicle 1 = .ok (.ifCond .lt 17, 3) := by decide +kernel
theorem dX7_isVehicle_4 : decode cX7_isVehicle 4 = .ok (.iload_n 1, 1) := by decide +kernel
theorem dX7_isVehicle_5 : decode cX7_isVehicle 5 = .ok (.aload_n 0, 1) := by decide +kernel
theorem dX7_isVehicle_6 : decode cX7_isVehicle 6 = .ok (.getfield 7, 3) := by decide +kernel
theorem dX7_isVehicle_9 : decode cX7_isVehicle 9 = .ok (.iconst 4, 1) := by decide +kernel
theorem dX7_isVehicle_10 : decode cX7_isVehicle 10 = .ok (.iaload, 1) := by decide +kernel
theorem dX7_isVehicle_11 : decode cX7_isVehicle 11 = .ok (.if_icmp .ge 7, 3) := by decide +kernel
theorem dX7_isVehicle_14 : decode cX7_isVehicle 14 = .ok (.iconst 1, 1) := by decide +kernel
theorem dX7_isVehicle_15 : decode cX7_isVehicle 15 = .ok (.goto 4, 3) := by decide +kernel
theorem dX7_isVehicle_18 : decode cX7_isVehicle 18 = .ok (.iconst 0, 1) := by decide +kernel
theorem dX7_isVehicle_19 : decode cX7_isVehicle 19 = .ok (.ireturn, 1) := by decide +kernel
theorem dX7_isHere_0 : decode cX7_isHere 0 = .ok (.aload_n 0, 1) := by decide +kernel
theorem dX7_isHere_1 : decode cX7_isHere 1 = .ok (.iload_n 1, 1) := by decide +kernel
theorem dX7_isHere_2 : decode cX7_isHere 2 = .ok (.invokevirtual 61, 3) := by decide +kernel
theorem dX7_isHere_5 : decode cX7_isHere 5 = .ok (.ifCond .eq 18, 3) := by decide +kernel
theorem dX7_isHere_8 : decode cX7_isHere 8 = .ok (.aload_n 0, 1) := by decide +kernel
theorem dX7_isHere_9 : decode cX7_isHere 9 = .ok (.iload_n 1, 1) := by decide +kernel
theorem dX7_isHere_10 : decode cX7_isHere 10 = .ok (.bipush 6, 2) := by decide +kernel
theorem dX7_isHere_12 : decode cX7_isHere 12 = .ok (.invokevirtual 57, 3) := by decide +kernel
theorem dX7_isHere_15 : decode cX7_isHere 15 = .ok (.iconst 2, 1) := by decide +kernel
theorem dX7_isHere_16 : decode cX7_isHere 16 = .ok (.if_icmp .ge 7, 3) := by decide +kernel
theorem dX7_isHere_19 : decode cX7_isHere 19 = .ok (.iconst 1, 1) := by decide +kernel
theorem dX7_isHere_20 : decode cX7_isHere 20 = .ok (.goto 4, 3) := by decide +kernel
theorem dX7_isHere_23 : decode cX7_isHere 23 = .ok (.iconst 0, 1) := by decide +kernel
theorem dX7_isHere_24 : decode cX7_isHere 24 = .ok (.ireturn, 1) := by decide +kernel
theorem dX7_makes_0 : decode cX7_makes 0 = .ok (.aload_n 0, 1) := by decide +kernel
theorem dX7_makes_1 : decode cX7_makes 1 = .ok (.getfield 7, 3) := by decide +kernel
theorem dX7_makes_4 : decode cX7_makes 4 = .ok (.iconst 3, 1) := by decide +kernel
theorem dX7_makes_5 : decode cX7_makes 5 = .ok (.iaload, 1) := by decide +kernel
theorem dX7_makes_6 : decode cX7_makes 6 = .ok (.istore 7, 2) := by decide +kernel
theorem dX7_makes_8 : decode cX7_makes 8 = .ok (.aload_n 0, 1) := by decide +kernel
theorem dX7_makes_9 : decode cX7_makes 9 = .ok (.iload 7, 2) := by decide +kernel
theorem dX7_makes_11 : decode cX7_makes 11 = .ok (.iconst 0, 1) := by decide +kernel
theorem dX7_makes_12 : decode cX7_makes 12 = .ok (.iload_n 1, 1) := by decide +kernel
theorem dX7_makes_13 : decode cX7_makes 13 = .ok (.invokevirtual 65, 3) := by decide +kernel
theorem dX7_makes_16 : decode cX7_makes 16 = .ok (.aload_n 0, 1) := by decide +kernel
theorem dX7_makes_17 : decode cX7_makes 17 = .ok (.iload 7, 2) := by decide +kernel
theorem dX7_makes_19 : decode cX7_makes 19 = .ok (.iconst 1, 1) := by decide +kernel
theorem dX7_makes_20 : decode cX7_makes 20 = .ok (.iload_n 2, 1) := by decide +kernel
theorem dX7_makes_21 : decode cX7_makes 21 = .ok (.invokevirtual 65, 3) := by decide +kernel
theorem dX7_makes_24 : decode cX7_makes 24 = .ok (.aload_n 0, 1) := by decide +kernel
theorem dX7_makes_25 : decode cX7_makes 25 = .ok (.iload 7, 2) := by decide +kernel
theorem dX7_makes_27 : decode cX7_makes 27 = .ok (.iconst 2, 1) := by decide +kernel
theorem dX7_makes_28 : decode cX7_makes 28 = .ok (.iload_n 3, 1) := by decide +kernel
theorem dX7_makes_29 : decode cX7_makes 29 = .ok (.invokevirtual 65, 3) := by decide +kernel
theorem dX7_makes_32 : decode cX7_makes 32 = .ok (.aload_n 0, 1) := by decide +kernel
theorem dX7_makes_33 : decode cX7_makes 33 = .ok (.iload 7, 2) := by decide +kernel
theorem dX7_makes_35 : decode cX7_makes 35 = .ok (.iconst 3, 1) := by decide +kernel
theorem dX7_makes_36 : decode cX7_makes 36 = .ok (.iload 4, 2) := by decide +kernel
theorem dX7_makes_38 : decode cX7_makes 38 = .ok (.invokevirtual 65, 3) := by decide +kernel
theorem dX7_makes_41 : decode cX7_makes 41 = .ok (.aload_n 0, 1) := by decide +kernel
theorem dX7_makes_42 : decode cX7_makes 42 = .ok (.iload 7, 2) := by decide +kernel
theorem dX7_makes_44 : decode cX7_makes 44 = .ok (.iconst 4, 1) := by decide +kernel
theorem dX7_makes_45 : decode cX7_makes 45 = .ok (.iload 5, 2) := by decide +kernel
theorem dX7_makes_47 : decode cX7_makes 47 = .ok (.invokevirtual 65, 3) := by decide +kernel
theorem dX7_makes_50 : decode cX7_makes 50 = .ok (.aload_n 0, 1) := by decide +kernel
theorem dX7_makes_51 : decode cX7_makes 51 = .ok (.iload 7, 2) := by decide +kernel
theorem dX7_makes_53 : decode cX7_makes 53 = .ok (.iconst 5, 1) := by decide +kernel
theorem dX7_makes_54 : decode cX7_makes 54 = .ok (.iload 6, 2) := by decide +kernel
theorem dX7_makes_56 : decode cX7_makes 56 = .ok (.invokevirtual 65, 3) := by decide +kernel
theorem dX7_makes_59 : decode cX7_makes 59 = .ok (.aload_n 0, 1) := by decide +kernel
theorem dX7_makes_60 : decode cX7_makes 60 = .ok (.iload 7, 2) := by decide +kernel
theorem dX7_makes_62 : decode cX7_makes 62 = .ok (.bipush 6, 2) := by decide +kernel
theorem dX7_makes_64 : decode cX7_makes 64 = .ok (.iconst 0, 1) := by decide +kernel
theorem dX7_makes_65 : decode cX7_makes 65 = .ok (.invokevirtual 65, 3) := by decide +kernel
theorem dX7_makes_68 : decode cX7_makes 68 = .ok (.aload_n 0, 1) := by decide +kernel
theorem dX7_makes_69 : decode cX7_makes 69 = .ok (.iload 7, 2) := by decide +kernel
theorem dX7_makes_71 : decode cX7_makes 71 = .ok (.bipush 7, 2) := by decide +kernel
theorem dX7_makes_73 : decode cX7_makes 73 = .ok (.ldc 69, 2) := by decide +kernel
theorem dX7_makes_75 : decode cX7_makes 75 = .ok (.invokevirtual 65, 3) := by decide +kernel
theorem dX7_makes_78 : decode cX7_makes 78 = .ok (.aload_n 0, 1) := by decide +kernel
theorem dX7_makes_79 : decode cX7_makes 79 = .ok (.iload 7, 2) := by decide +kernel
theorem dX7_makes_81 : decode cX7_makes 81 = .ok (.bipush 8, 2) := by decide +kernel
theorem dX7_makes_83 : decode cX7_makes 83 = .ok (.ldc 69, 2) := by decide +kernel
theorem dX7_makes_85 : decode cX7_makes 85 = .ok (.invokevirtual 65, 3) := by decide +kernel
theorem dX7_makes_88 : decode cX7_makes 88 = .ok (.aload_n 0, 1) := by decide +kernel
theorem dX7_makes_89 : decode cX7_makes 89 = .ok (.iload 7, 2) := by decide +kernel
theorem dX7_makes_91 : decode cX7_makes 91 = .ok (.bipush 9, 2) := by decide +kernel
theorem dX7_makes_93 : decode cX7_makes 93 = .ok (.iload 7, 2) := by decide +kernel
theorem dX7_makes_95 : decode cX7_makes 95 = .ok (.invokevirtual 65, 3) := by decide +kernel
theorem dX7_makes_98 : decode cX7_makes 98 = .ok (.aload_n 0, 1) := by decide +kernel
theorem dX7_makes_99 : decode cX7_makes 99 = .ok (.iload 7, 2) := by decide +kernel
theorem dX7_makes_101 : decode cX7_makes 101 = .ok (.bipush 10, 2) := by decide +kernel
theorem dX7_makes_103 : decode cX7_makes 103 = .ok (.aload_n 0, 1) := by decide +kernel
theorem dX7_makes_104 : decode cX7_makes 104 = .ok (.getfield 7, 3) := by decide +kernel
theorem dX7_makes_107 : decode cX7_makes 107 = .ok (.iconst 5, 1) := by decide +kernel
theorem dX7_makes_108 : decode cX7_makes 108 = .ok (.iaload, 1) := by decide +kernel
theorem dX7_makes_109 : decode cX7_makes 109 = .ok (.invokevirtual 65, 3) := by decide +kernel
theorem dX7_makes_112 : decode cX7_makes 112 = .ok (.aload_n 0, 1) := by decide +kernel
theorem dX7_makes_113 : decode cX7_makes 113 = .ok (.iload 7, 2) := by decide +kernel
theorem dX7_makes_115 : decode cX7_makes 115 = .ok (.bipush 11, 2) := by decide +kernel
theorem dX7_makes_117 : decode cX7_makes 117 = .ok (.iconst 0, 1) := by decide +kernel
theorem dX7_makes_118 : decode cX7_makes 118 = .ok (.invokevirtual 65, 3) := by decide +kernel
theorem dX7_makes_121 : decode cX7_makes 121 = .ok (.aload_n 0, 1) := by decide +kernel
theorem dX7_makes_122 : decode cX7_makes 122 = .ok (.getfield 7, 3) := by decide +kernel
theorem dX7_makes_125 : decode cX7_makes 125 = .ok (.iconst 3, 1) := by decide +kernel
theorem dX7_makes_126 : decode cX7_makes 126 = .ok (.dup2, 1) := by decide +kernel
theorem dX7_makes_127 : decode cX7_makes 127 = .ok (.iaload, 1) := by decide +kernel
theorem dX7_makes_128 : decode cX7_makes 128 = .ok (.iconst 1, 1) := by decide +kernel
theorem dX7_makes_129 : decode cX7_makes 129 = .ok (.iadd, 1) := by decide +kernel
theorem dX7_makes_130 : decode cX7_makes 130 = .ok (.iastore, 1) := by decide +kernel
theorem dX7_makes_131 : decode cX7_makes 131 = .ok (.iload 7, 2) := by decide +kernel
theorem dX7_makes_133 : decode cX7_makes 133 = .ok (.ireturn, 1) := by decide +kernel
theorem dX7_consign_0 : decode cX7_consign 0 = .ok (.iload_n 1, 1) := by decide +kernel
theorem dX7_consign_1 : decode cX7_consign 1 = .ok (.iconst 1, 1) := by decide +kernel
theorem dX7_consign_2 : decode cX7_consign 2 = .ok (.iconst 4, 1) := by decide +kernel
theorem dX7_consign_3 : decode cX7_consign 3 = .ok (.invokestatic 70, 3) := by decide +kernel
theorem dX7_consign_6 : decode cX7_consign 6 = .ok (.ifCond .eq 60, 3) := by decide +kernel
theorem dX7_consign_9 : decode cX7_consign 9 = .ok (.iload_n 2, 1) := by decide +kernel
theorem dX7_consign_10 : decode cX7_consign 10 = .ok (.iconst 1, 1) := by decide +kernel
theorem dX7_consign_11 : decode cX7_consign 11 = .ok (.bipush 99, 2) := by decide +kernel
theorem dX7_consign_13 : decode cX7_consign 13 = .ok (.invokestatic 70, 3) := by decide +kernel
theorem dX7_consign_16 : decode cX7_consign 16 = .ok (.ifCond .eq 50, 3) := by decide +kernel
theorem dX7_consign_19 : decode cX7_consign 19 = .ok (.iload_n 3, 1) := by decide +kernel
theorem dX7_consign_20 : decode cX7_consign 20 = .ok (.iconst 1, 1) := by decide +kernel
theorem dX7_consign_21 : decode cX7_consign 21 = .ok (.bipush 99, 2) := by decide +kernel
theorem dX7_consign_23 : decode cX7_consign 23 = .ok (.invokestatic 70, 3) := by decide +kernel
theorem dX7_consign_26 : decode cX7_consign 26 = .ok (.ifCond .eq 40, 3) := by decide +kernel
theorem dX7_consign_29 : decode cX7_consign 29 = .ok (.iload 4, 2) := by decide +kernel
theorem dX7_consign_31 : decode cX7_consign 31 = .ok (.iconst 0, 1) := by decide +kernel
theorem dX7_consign_32 : decode cX7_consign 32 = .ok (.sipush 9999, 3) := by decide +kernel
theorem dX7_consign_35 : decode cX7_consign 35 = .ok (.invokestatic 70, 3) := by decide +kernel
theorem dX7_consign_38 : decode cX7_consign 38 = .ok (.ifCond .eq 28, 3) := by decide +kernel
theorem dX7_consign_41 : decode cX7_consign 41 = .ok (.iload 5, 2) := by decide +kernel
theorem dX7_consign_43 : decode cX7_consign 43 = .ok (.iload 4, 2) := by decide +kernel
theorem dX7_consign_45 : decode cX7_consign 45 = .ok (.sipush 9999, 3) := by decide +kernel
theorem dX7_consign_48 : decode cX7_consign 48 = .ok (.invokestatic 70, 3) := by decide +kernel
theorem dX7_consign_51 : decode cX7_consign 51 = .ok (.ifCond .eq 15, 3) := by decide +kernel
theorem dX7_consign_54 : decode cX7_consign 54 = .ok (.iload 6, 2) := by decide +kernel
theorem dX7_consign_56 : decode cX7_consign 56 = .ok (.iconst 0, 1) := by decide +kernel
theorem dX7_consign_57 : decode cX7_consign 57 = .ok (.sipush 999, 3) := by decide +kernel
theorem dX7_consign_60 : decode cX7_consign 60 = .ok (.invokestatic 70, 3) := by decide +kernel
theorem dX7_consign_63 : decode cX7_consign 63 = .ok (.ifCond .ne 6, 3) := by decide +kernel
theorem dX7_consign_66 : decode cX7_consign 66 = .ok (.ldc 74, 2) := by decide +kernel
theorem dX7_consign_68 : decode cX7_consign 68 = .ok (.ireturn, 1) := by decide +kernel
theorem dX7_consign_69 : decode cX7_consign 69 = .ok (.aload_n 0, 1) := by decide +kernel
theorem dX7_consign_70 : decode cX7_consign 70 = .ok (.getfield 7, 3) := by decide +kernel
theorem dX7_consign_73 : decode cX7_consign 73 = .ok (.iconst 3, 1) := by decide +kernel
theorem dX7_consign_74 : decode cX7_consign 74 = .ok (.iaload, 1) := by decide +kernel
theorem dX7_consign_75 : decode cX7_consign 75 = .ok (.bipush 16, 2) := by decide +kernel
theorem dX7_consign_77 : decode cX7_consign 77 = .ok (.if_icmp .ne 6, 3) := by decide +kernel
theorem dX7_consign_80 : decode cX7_consign 80 = .ok (.ldc 75, 2) := by decide +kernel
theorem dX7_consign_82 : decode cX7_consign 82 = .ok (.ireturn, 1) := by decide +kernel
theorem dX7_consign_83 : decode cX7_consign 83 = .ok (.aload_n 0, 1) := by decide +kernel
theorem dX7_consign_84 : decode cX7_consign 84 = .ok (.invokevirtual 76, 3) := by decide +kernel
theorem dX7_consign_87 : decode cX7_consign 87 = .ok (.aload_n 0, 1) := by decide +kernel
theorem dX7_consign_88 : decode cX7_consign 88 = .ok (.iload_n 1, 1) := by decide +kernel
theorem dX7_consign_89 : decode cX7_consign 89 = .ok (.iload_n 2, 1) := by decide +kernel
theorem dX7_consign_90 : decode cX7_consign 90 = .ok (.iload_n 3, 1) := by decide +kernel
theorem dX7_consign_91 : decode cX7_consign 91 = .ok (.iload 4, 2) := by decide +kernel
theorem dX7_consign_93 : decode cX7_consign 93 = .ok (.iload 5, 2) := by decide +kernel
theorem dX7_consign_95 : decode cX7_consign 95 = .ok (.iload 6, 2) := by decide +kernel
theorem dX7_consign_97 : decode cX7_consign 97 = .ok (.invokevirtual 79, 3) := by decide +kernel
theorem dX7_consign_100 : decode cX7_consign 100 = .ok (.ireturn, 1) := by decide +kernel
theorem dX7_split_0 : decode cX7_split 0 = .ok (.aload_n 0, 1) := by decide +kernel
theorem dX7_split_1 : decode cX7_split 1 = .ok (.iload_n 1, 1) := by decide +kernel
theorem dX7_split_2 : decode cX7_split 2 = .ok (.invokevirtual 61, 3) := by decide +kernel
theorem dX7_split_5 : decode cX7_split 5 = .ok (.ifCond .eq 35, 3) := by decide +kernel
theorem dX7_split_8 : decode cX7_split 8 = .ok (.iload_n 2, 1) := by decide +kernel
theorem dX7_split_9 : decode cX7_split 9 = .ok (.iconst 1, 1) := by decide +kernel
theorem dX7_split_10 : decode cX7_split 10 = .ok (.aload_n 0, 1) := by decide +kernel
theorem dX7_split_11 : decode cX7_split 11 = .ok (.iload_n 1, 1) := by decide +kernel
theorem dX7_split_12 : decode cX7_split 12 = .ok (.iconst 1, 1) := by decide +kernel
theorem dX7_split_13 : decode cX7_split 13 = .ok (.invokevirtual 57, 3) := by decide +kernel
theorem dX7_split_16 : decode cX7_split 16 = .ok (.iconst 1, 1) := by decide +kernel
theorem dX7_split_17 : decode cX7_split 17 = .ok (.isub, 1) := by decide +kernel
theorem dX7_split_18 : decode cX7_split 18 = .ok (.invokestatic 70, 3) := by decide +kernel
theorem dX7_split_21 : decode cX7_split 21 = .ok (.ifCond .eq 19, 3) := by decide +kernel
theorem dX7_split_24 : decode cX7_split 24 = .ok (.iload_n 3, 1) := by decide +kernel
theorem dX7_split_25 : decode cX7_split 25 = .ok (.iconst 1, 1) := by decide +kernel
theorem dX7_split_26 : decode cX7_split 26 = .ok (.aload_n 0, 1) := by decide +kernel
theorem dX7_split_27 : decode cX7_split 27 = .ok (.iload_n 1, 1) := by decide +kernel
theorem dX7_split_28 : decode cX7_split 28 = .ok (.iconst 2, 1) := by decide +kernel
theorem dX7_split_29 : decode cX7_split 29 = .ok (.invokevirtual 57, 3) := by decide +kernel
theorem dX7_split_32 : decode cX7_split 32 = .ok (.iconst 1, 1) := by decide +kernel
theorem dX7_split_33 : decode cX7_split 33 = .ok (.isub, 1) := by decide +kernel
theorem dX7_split_34 : decode cX7_split 34 = .ok (.invokestatic 70, 3) := by decide +kernel
theorem dX7_split_37 : decode cX7_split 37 = .ok (.ifCond .ne 6, 3) := by decide +kernel
theorem dX7_split_40 : decode cX7_split 40 = .ok (.ldc 74, 2) := by decide +kernel
theorem dX7_split_42 : decode cX7_split 42 = .ok (.ireturn, 1) := by decide +kernel
theorem dX7_split_43 : decode cX7_split 43 = .ok (.aload_n 0, 1) := by decide +kernel
theorem dX7_split_44 : decode cX7_split 44 = .ok (.iload_n 1, 1) := by decide +kernel
theorem dX7_split_45 : decode cX7_split 45 = .ok (.bipush 6, 2) := by decide +kernel
theorem dX7_split_47 : decode cX7_split 47 = .ok (.invokevirtual 57, 3) := by decide +kernel
theorem dX7_split_50 : decode cX7_split 50 = .ok (.ifCond .eq 6, 3) := by decide +kernel
theorem dX7_split_53 : decode cX7_split 53 = .ok (.ldc 83, 2) := by decide +kernel
theorem dX7_split_55 : decode cX7_split 55 = .ok (.ireturn, 1) := by decide +kernel
theorem dX7_split_56 : decode cX7_split 56 = .ok (.aload_n 0, 1) := by decide +kernel
theorem dX7_split_57 : decode cX7_split 57 = .ok (.getfield 7, 3) := by decide +kernel
theorem dX7_split_60 : decode cX7_split 60 = .ok (.iconst 3, 1) := by decide +kernel
theorem dX7_split_61 : decode cX7_split 61 = .ok (.iaload, 1) := by decide +kernel
theorem dX7_split_62 : decode cX7_split 62 = .ok (.bipush 16, 2) := by decide +kernel
theorem dX7_split_64 : decode cX7_split 64 = .ok (.if_icmp .ne 6, 3) := by decide +kernel
theorem dX7_split_67 : decode cX7_split 67 = .ok (.ldc 75, 2) := by decide +kernel
theorem dX7_split_69 : decode cX7_split 69 = .ok (.ireturn, 1) := by decide +kernel
theorem dX7_split_70 : decode cX7_split 70 = .ok (.aload_n 0, 1) := by decide +kernel
theorem dX7_split_71 : decode cX7_split 71 = .ok (.invokevirtual 76, 3) := by decide +kernel
theorem dX7_split_74 : decode cX7_split 74 = .ok (.aload_n 0, 1) := by decide +kernel
theorem dX7_split_75 : decode cX7_split 75 = .ok (.iload_n 1, 1) := by decide +kernel
theorem dX7_split_76 : decode cX7_split 76 = .ok (.iconst 5, 1) := by decide +kernel
theorem dX7_split_77 : decode cX7_split 77 = .ok (.invokevirtual 57, 3) := by decide +kernel
theorem dX7_split_80 : decode cX7_split 80 = .ok (.iload_n 2, 1) := by decide +kernel
theorem dX7_split_81 : decode cX7_split 81 = .ok (.imul, 1) := by decide +kernel
theorem dX7_split_82 : decode cX7_split 82 = .ok (.aload_n 0, 1) := by decide +kernel
theorem dX7_split_83 : decode cX7_split 83 = .ok (.iload_n 1, 1) := by decide +kernel
theorem dX7_split_84 : decode cX7_split 84 = .ok (.iconst 1, 1) := by decide +kernel
theorem dX7_split_85 : decode cX7_split 85 = .ok (.invokevirtual 57, 3) := by decide +kernel
theorem dX7_split_88 : decode cX7_split 88 = .ok (.idiv, 1) := by decide +kernel
theorem dX7_split_89 : decode cX7_split 89 = .ok (.istore 4, 2) := by decide +kernel
theorem dX7_split_91 : decode cX7_split 91 = .ok (.aload_n 0, 1) := by decide +kernel
theorem dX7_split_92 : decode cX7_split 92 = .ok (.aload_n 0, 1) := by decide +kernel
theorem dX7_split_93 : decode cX7_split 93 = .ok (.iload_n 1, 1) := by decide +kernel
theorem dX7_split_94 : decode cX7_split 94 = .ok (.iconst 0, 1) := by decide +kernel
theorem dX7_split_95 : decode cX7_split 95 = .ok (.invokevirtual 57, 3) := by decide +kernel
theorem dX7_split_98 : decode cX7_split 98 = .ok (.iload_n 2, 1) := by decide +kernel
theorem dX7_split_99 : decode cX7_split 99 = .ok (.iload_n 3, 1) := by decide +kernel
theorem dX7_split_100 : decode cX7_split 100 = .ok (.aload_n 0, 1) := by decide +kernel
theorem dX7_split_101 : decode cX7_split 101 = .ok (.iload_n 1, 1) := by decide +kernel
theorem dX7_split_102 : decode cX7_split 102 = .ok (.iconst 3, 1) := by decide +kernel
theorem dX7_split_103 : decode cX7_split 103 = .ok (.invokevirtual 57, 3) := by decide +kernel
theorem dX7_split_106 : decode cX7_split 106 = .ok (.aload_n 0, 1) := by decide +kernel
theorem dX7_split_107 : decode cX7_split 107 = .ok (.iload_n 1, 1) := by decide +kernel
theorem dX7_split_108 : decode cX7_split 108 = .ok (.iconst 4, 1) := by decide +kernel
theorem dX7_split_109 : decode cX7_split 109 = .ok (.invokevirtual 57, 3) := by decide +kernel
theorem dX7_split_112 : decode cX7_split 112 = .ok (.iload 4, 2) := by decide +kernel
theorem dX7_split_114 : decode cX7_split 114 = .ok (.invokevirtual 79, 3) := by decide +kernel
theorem dX7_split_117 : decode cX7_split 117 = .ok (.istore 5, 2) := by decide +kernel
theorem dX7_split_119 : decode cX7_split 119 = .ok (.aload_n 0, 1) := by decide +kernel
theorem dX7_split_120 : decode cX7_split 120 = .ok (.iload 5, 2) := by decide +kernel
theorem dX7_split_122 : decode cX7_split 122 = .ok (.bipush 9, 2) := by decide +kernel
theorem dX7_split_124 : decode cX7_split 124 = .ok (.aload_n 0, 1) := by decide +kernel
theorem dX7_split_125 : decode cX7_split 125 = .ok (.iload_n 1, 1) := by decide +kernel
theorem dX7_split_126 : decode cX7_split 126 = .ok (.bipush 9, 2) := by decide +kernel
theorem dX7_split_128 : decode cX7_split 128 = .ok (.invokevirtual 57, 3) := by decide +kernel
theorem dX7_split_131 : decode cX7_split 131 = .ok (.invokevirtual 65, 3) := by decide +kernel
theorem dX7_split_134 : decode cX7_split 134 = .ok (.aload_n 0, 1) := by decide +kernel
theorem dX7_split_135 : decode cX7_split 135 = .ok (.iload 5, 2) := by decide +kernel
theorem dX7_split_137 : decode cX7_split 137 = .ok (.bipush 10, 2) := by decide +kernel
theorem dX7_split_139 : decode cX7_split 139 = .ok (.aload_n 0, 1) := by decide +kernel
theorem dX7_split_140 : decode cX7_split 140 = .ok (.iload_n 1, 1) := by decide +kernel
theorem dX7_split_141 : decode cX7_split 141 = .ok (.bipush 10, 2) := by decide +kernel
theorem dX7_split_143 : decode cX7_split 143 = .ok (.invokevirtual 57, 3) := by decide +kernel
theorem dX7_split_146 : decode cX7_split 146 = .ok (.invokevirtual 65, 3) := by decide +kernel
theorem dX7_split_149 : decode cX7_split 149 = .ok (.aload_n 0, 1) := by decide +kernel
theorem dX7_split_150 : decode cX7_split 150 = .ok (.iload_n 1, 1) := by decide +kernel
theorem dX7_split_151 : decode cX7_split 151 = .ok (.iconst 1, 1) := by decide +kernel
theorem dX7_split_152 : decode cX7_split 152 = .ok (.aload_n 0, 1) := by decide +kernel
theorem dX7_split_153 : decode cX7_split 153 = .ok (.iload_n 1, 1) := by decide +kernel
theorem dX7_split_154 : decode cX7_split 154 = .ok (.iconst 1, 1) := by decide +kernel
theorem dX7_split_155 : decode cX7_split 155 = .ok (.invokevirtual 57, 3) := by decide +kernel
theorem dX7_split_158 : decode cX7_split 158 = .ok (.iload_n 2, 1) := by decide +kernel
theorem dX7_split_159 : decode cX7_split 159 = .ok (.isub, 1) := by decide +kernel
theorem dX7_split_160 : decode cX7_split 160 = .ok (.invokevirtual 65, 3) := by decide +kernel
theorem dX7_split_163 : decode cX7_split 163 = .ok (.aload_n 0, 1) := by decide +kernel
theorem dX7_split_164 : decode cX7_split 164 = .ok (.iload_n 1, 1) := by decide +kernel
theorem dX7_split_165 : decode cX7_split 165 = .ok (.iconst 2, 1) := by decide +kernel
theorem dX7_split_166 : decode cX7_split 166 = .ok (.aload_n 0, 1) := by decide +kernel
theorem dX7_split_167 : decode cX7_split 167 = .ok (.iload_n 1, 1) := by decide +kernel
theorem dX7_split_168 : decode cX7_split 168 = .ok (.iconst 2, 1) := by decide +kernel
theorem dX7_split_169 : decode cX7_split 169 = .ok (.invokevirtual 57, 3) := by decide +kernel
theorem dX7_split_172 : decode cX7_split 172 = .ok (.iload_n 3, 1) := by decide +kernel
theorem dX7_split_173 : decode cX7_split 173 = .ok (.isub, 1) := by decide +kernel
theorem dX7_split_174 : decode cX7_split 174 = .ok (.invokevirtual 65, 3) := by decide +kernel
theorem dX7_split_177 : decode cX7_split 177 = .ok (.aload_n 0, 1) := by decide +kernel
theorem dX7_split_178 : decode cX7_split 178 = .ok (.iload_n 1, 1) := by decide +kernel
theorem dX7_split_179 : decode cX7_split 179 = .ok (.iconst 5, 1) := by decide +kernel
theorem dX7_split_180 : decode cX7_split 180 = .ok (.aload_n 0, 1) := by decide +kernel
theorem dX7_split_181 : decode cX7_split 181 = .ok (.iload_n 1, 1) := by decide +kernel
theorem dX7_split_182 : decode cX7_split 182 = .ok (.iconst 5, 1) := by decide +kernel
theorem dX7_split_183 : decode cX7_split 183 = .ok (.invokevirtual 57, 3) := by decide +kernel
theorem dX7_split_186 : decode cX7_split 186 = .ok (.iload 4, 2) := by decide +kernel
theorem dX7_split_188 : decode cX7_split 188 = .ok (.isub, 1) := by decide +kernel
theorem dX7_split_189 : decode cX7_split 189 = .ok (.invokevirtual 65, 3) := by decide +kernel
theorem dX7_split_192 : decode cX7_split 192 = .ok (.iload 5, 2) := by decide +kernel
theorem dX7_split_194 : decode cX7_split 194 = .ok (.ireturn, 1) := by decide +kernel
theorem dX7_join_0 : decode cX7_join 0 = .ok (.aload_n 0, 1) := by decide +kernel
theorem dX7_join_1 : decode cX7_join 1 = .ok (.iload_n 1, 1) := by decide +kernel
theorem dX7_join_2 : decode cX7_join 2 = .ok (.invokevirtual 61, 3) := by decide +kernel
theorem dX7_join_5 : decode cX7_join 5 = .ok (.ifCond .eq 16, 3) := by decide +kernel
theorem dX7_join_8 : decode cX7_join 8 = .ok (.aload_n 0, 1) := by decide +kernel
theorem dX7_join_9 : decode cX7_join 9 = .ok (.iload_n 2, 1) := by decide +kernel
theorem dX7_join_10 : decode cX7_join 10 = .ok (.invokevirtual 61, 3) := by decide +kernel
theorem dX7_join_13 : decode cX7_join 13 = .ok (.ifCond .eq 8, 3) := by decide +kernel
theorem dX7_join_16 : decode cX7_join 16 = .ok (.iload_n 1, 1) := by decide +kernel
theorem dX7_join_17 : decode cX7_join 17 = .ok (.iload_n 2, 1) := by decide +kernel
theorem dX7_join_18 : decode cX7_join 18 = .ok (.if_icmp .ne 6, 3) := by decide +kernel
theorem dX7_join_21 : decode cX7_join 21 = .ok (.ldc 74, 2) := by decide +kernel
theorem dX7_join_23 : decode cX7_join 23 = .ok (.ireturn, 1) := by decide +kernel
theorem dX7_join_24 : decode cX7_join 24 = .ok (.aload_n 0, 1) := by decide +kernel
theorem dX7_join_25 : decode cX7_join 25 = .ok (.iload_n 1, 1) := by decide +kernel
theorem dX7_join_26 : decode cX7_join 26 = .ok (.bipush 9, 2) := by decide +kernel
theorem dX7_join_28 : decode cX7_join 28 = .ok (.invokevirtual 57, 3) := by decide +kernel
theorem dX7_join_31 : decode cX7_join 31 = .ok (.aload_n 0, 1) := by decide +kernel
theorem dX7_join_32 : decode cX7_join 32 = .ok (.iload_n 2, 1) := by decide +kernel
theorem dX7_join_33 : decode cX7_join 33 = .ok (.bipush 9, 2) := by decide +kernel
theorem dX7_join_35 : decode cX7_join 35 = .ok (.invokevirtual 57, 3) := by decide +kernel
theorem dX7_join_38 : decode cX7_join 38 = .ok (.if_icmp .ne 23, 3) := by decide +kernel
theorem dX7_join_41 : decode cX7_join 41 = .ok (.aload_n 0, 1) := by decide +kernel
theorem dX7_join_42 : decode cX7_join 42 = .ok (.iload_n 1, 1) := by decide +kernel
theorem dX7_join_43 : decode cX7_join 43 = .ok (.bipush 6, 2) := by decide +kernel
theorem dX7_join_45 : decode cX7_join 45 = .ok (.invokevirtual 57, 3) := by decide +kernel
theorem dX7_join_48 : decode cX7_join 48 = .ok (.ifCond .ne 13, 3) := by decide +kernel
theorem dX7_join_51 : decode cX7_join 51 = .ok (.aload_n 0, 1) := by decide +kernel
theorem dX7_join_52 : decode cX7_join 52 = .ok (.iload_n 2, 1) := by decide +kernel
theorem dX7_join_53 : decode cX7_join 53 = .ok (.bipush 6, 2) := by decide +kernel
theorem dX7_join_55 : decode cX7_join 55 = .ok (.invokevirtual 57, 3) := by decide +kernel
theorem dX7_join_58 : decode cX7_join 58 = .ok (.ifCond .eq 6, 3) := by decide +kernel
theorem dX7_join_61 : decode cX7_join 61 = .ok (.ldc 83, 2) := by decide +kernel
theorem dX7_join_63 : decode cX7_join 63 = .ok (.ireturn, 1) := by decide +kernel
theorem dX7_join_64 : decode cX7_join 64 = .ok (.aload_n 0, 1) := by decide +kernel
theorem dX7_join_65 : decode cX7_join 65 = .ok (.invokevirtual 76, 3) := by decide +kernel
theorem dX7_join_68 : decode cX7_join 68 = .ok (.iload_n 1, 1) := by decide +kernel
theorem dX7_join_69 : decode cX7_join 69 = .ok (.iload_n 2, 1) := by decide +kernel
theorem dX7_join_70 : decode cX7_join 70 = .ok (.if_icmp .ge 7, 3) := by decide +kernel
theorem dX7_join_73 : decode cX7_join 73 = .ok (.iload_n 1, 1) := by decide +kernel
theorem dX7_join_74 : decode cX7_join 74 = .ok (.goto 4, 3) := by decide +kernel
theorem dX7_join_77 : decode cX7_join 77 = .ok (.iload_n 2, 1) := by decide +kernel
theorem dX7_join_78 : decode cX7_join 78 = .ok (.istore_n 3, 1) := by decide +kernel
theorem dX7_join_79 : decode cX7_join 79 = .ok (.iload_n 1, 1) := by decide +kernel
theorem dX7_join_80 : decode cX7_join 80 = .ok (.iload_n 2, 1) := by decide +kernel
theorem dX7_join_81 : decode cX7_join 81 = .ok (.iadd, 1) := by decide +kernel
theorem dX7_join_82 : decode cX7_join 82 = .ok (.iload_n 3, 1) := by decide +kernel
theorem dX7_join_83 : decode cX7_join 83 = .ok (.isub, 1) := by decide +kernel
theorem dX7_join_84 : decode cX7_join 84 = .ok (.istore 4, 2) := by decide +kernel
theorem dX7_join_86 : decode cX7_join 86 = .ok (.aload_n 0, 1) := by decide +kernel
theorem dX7_join_87 : decode cX7_join 87 = .ok (.iload_n 3, 1) := by decide +kernel
theorem dX7_join_88 : decode cX7_join 88 = .ok (.iconst 1, 1) := by decide +kernel
theorem dX7_join_89 : decode cX7_join 89 = .ok (.aload_n 0, 1) := by decide +kernel
theorem dX7_join_90 : decode cX7_join 90 = .ok (.iload_n 3, 1) := by decide +kernel
theorem dX7_join_91 : decode cX7_join 91 = .ok (.iconst 1, 1) := by decide +kernel
theorem dX7_join_92 : decode cX7_join 92 = .ok (.invokevirtual 57, 3) := by decide +kernel
theorem dX7_join_95 : decode cX7_join 95 = .ok (.aload_n 0, 1) := by decide +kernel
theorem dX7_join_96 : decode cX7_join 96 = .ok (.iload 4, 2) := by decide +kernel
theorem dX7_join_98 : decode cX7_join 98 = .ok (.iconst 1, 1) := by decide +kernel
theorem dX7_join_99 : decode cX7_join 99 = .ok (.invokevirtual 57, 3) := by decide +kernel
theorem dX7_join_102 : decode cX7_join 102 = .ok (.iadd, 1) := by decide +kernel
theorem dX7_join_103 : decode cX7_join 103 = .ok (.invokevirtual 65, 3) := by decide +kernel
theorem dX7_join_106 : decode cX7_join 106 = .ok (.aload_n 0, 1) := by decide +kernel
theorem dX7_join_107 : decode cX7_join 107 = .ok (.iload_n 3, 1) := by decide +kernel
theorem dX7_join_108 : decode cX7_join 108 = .ok (.iconst 2, 1) := by decide +kernel
theorem dX7_join_109 : decode cX7_join 109 = .ok (.aload_n 0, 1) := by decide +kernel
theorem dX7_join_110 : decode cX7_join 110 = .ok (.iload_n 3, 1) := by decide +kernel
theorem dX7_join_111 : decode cX7_join 111 = .ok (.iconst 2, 1) := by decide +kernel
theorem dX7_join_112 : decode cX7_join 112 = .ok (.invokevirtual 57, 3) := by decide +kernel
theorem dX7_join_115 : decode cX7_join 115 = .ok (.aload_n 0, 1) := by decide +kernel
theorem dX7_join_116 : decode cX7_join 116 = .ok (.iload 4, 2) := by decide +kernel
theorem dX7_join_118 : decode cX7_join 118 = .ok (.iconst 2, 1) := by decide +kernel
theorem dX7_join_119 : decode cX7_join 119 = .ok (.invokevirtual 57, 3) := by decide +kernel
theorem dX7_join_122 : decode cX7_join 122 = .ok (.iadd, 1) := by decide +kernel
theorem dX7_join_123 : decode cX7_join 123 = .ok (.invokevirtual 65, 3) := by decide +kernel
theorem dX7_join_126 : decode cX7_join 126 = .ok (.aload_n 0, 1) := by decide +kernel
theorem dX7_join_127 : decode cX7_join 127 = .ok (.iload_n 3, 1) := by decide +kernel
theorem dX7_join_128 : decode cX7_join 128 = .ok (.iconst 5, 1) := by decide +kernel
theorem dX7_join_129 : decode cX7_join 129 = .ok (.aload_n 0, 1) := by decide +kernel
theorem dX7_join_130 : decode cX7_join 130 = .ok (.iload_n 3, 1) := by decide +kernel
theorem dX7_join_131 : decode cX7_join 131 = .ok (.iconst 5, 1) := by decide +kernel
theorem dX7_join_132 : decode cX7_join 132 = .ok (.invokevirtual 57, 3) := by decide +kernel
theorem dX7_join_135 : decode cX7_join 135 = .ok (.aload_n 0, 1) := by decide +kernel
theorem dX7_join_136 : decode cX7_join 136 = .ok (.iload 4, 2) := by decide +kernel
theorem dX7_join_138 : decode cX7_join 138 = .ok (.iconst 5, 1) := by decide +kernel
theorem dX7_join_139 : decode cX7_join 139 = .ok (.invokevirtual 57, 3) := by decide +kernel
theorem dX7_join_142 : decode cX7_join 142 = .ok (.iadd, 1) := by decide +kernel
theorem dX7_join_143 : decode cX7_join 143 = .ok (.invokevirtual 65, 3) := by decide +kernel
theorem dX7_join_146 : decode cX7_join 146 = .ok (.aload_n 0, 1) := by decide +kernel
theorem dX7_join_147 : decode cX7_join 147 = .ok (.iload_n 3, 1) := by decide +kernel
theorem dX7_join_148 : decode cX7_join 148 = .ok (.bipush 10, 2) := by decide +kernel
theorem dX7_join_150 : decode cX7_join 150 = .ok (.aload_n 0, 1) := by decide +kernel
theorem dX7_join_151 : decode cX7_join 151 = .ok (.iload 4, 2) := by decide +kernel
theorem dX7_join_153 : decode cX7_join 153 = .ok (.bipush 10, 2) := by decide +kernel
theorem dX7_join_155 : decode cX7_join 155 = .ok (.invokevirtual 57, 3) := by decide +kernel
theorem dX7_join_158 : decode cX7_join 158 = .ok (.aload_n 0, 1) := by decide +kernel
theorem dX7_join_159 : decode cX7_join 159 = .ok (.iload_n 3, 1) := by decide +kernel
theorem dX7_join_160 : decode cX7_join 160 = .ok (.bipush 10, 2) := by decide +kernel
theorem dX7_join_162 : decode cX7_join 162 = .ok (.invokevirtual 57, 3) := by decide +kernel
theorem dX7_join_165 : decode cX7_join 165 = .ok (.if_icmp .ge 14, 3) := by decide +kernel
theorem dX7_join_168 : decode cX7_join 168 = .ok (.aload_n 0, 1) := by decide +kernel
theorem dX7_join_169 : decode cX7_join 169 = .ok (.iload 4, 2) := by decide +kernel
theorem dX7_join_171 : decode cX7_join 171 = .ok (.bipush 10, 2) := by decide +kernel
theorem dX7_join_173 : decode cX7_join 173 = .ok (.invokevirtual 57, 3) := by decide +kernel
theorem dX7_join_176 : decode cX7_join 176 = .ok (.goto 10, 3) := by decide +kernel
theorem dX7_join_179 : decode cX7_join 179 = .ok (.aload_n 0, 1) := by decide +kernel
theorem dX7_join_180 : decode cX7_join 180 = .ok (.iload_n 3, 1) := by decide +kernel
theorem dX7_join_181 : decode cX7_join 181 = .ok (.bipush 10, 2) := by decide +kernel
theorem dX7_join_183 : decode cX7_join 183 = .ok (.invokevirtual 57, 3) := by decide +kernel
theorem dX7_join_186 : decode cX7_join 186 = .ok (.invokevirtual 65, 3) := by decide +kernel
theorem dX7_join_189 : decode cX7_join 189 = .ok (.aload_n 0, 1) := by decide +kernel
theorem dX7_join_190 : decode cX7_join 190 = .ok (.iload 4, 2) := by decide +kernel
theorem dX7_join_192 : decode cX7_join 192 = .ok (.bipush 6, 2) := by decide +kernel
theorem dX7_join_194 : decode cX7_join 194 = .ok (.iconst 5, 1) := by decide +kernel
theorem dX7_join_195 : decode cX7_join 195 = .ok (.invokevirtual 65, 3) := by decide +kernel
theorem dX7_join_198 : decode cX7_join 198 = .ok (.iload_n 3, 1) := by decide +kernel
theorem dX7_join_199 : decode cX7_join 199 = .ok (.ireturn, 1) := by decide +kernel
theorem dX7_vehicle_0 : decode cX7_vehicle 0 = .ok (.iload_n 1, 1) := by decide +kernel
theorem dX7_vehicle_1 : decode cX7_vehicle 1 = .ok (.iconst 1, 1) := by decide +kernel
theorem dX7_vehicle_2 : decode cX7_vehicle 2 = .ok (.sipush 200, 3) := by decide +kernel
theorem dX7_vehicle_5 : decode cX7_vehicle 5 = .ok (.invokestatic 70, 3) := by decide +kernel
theorem dX7_vehicle_8 : decode cX7_vehicle 8 = .ok (.ifCond .eq 14, 3) := by decide +kernel
theorem dX7_vehicle_11 : decode cX7_vehicle 11 = .ok (.iload_n 2, 1) := by decide +kernel
theorem dX7_vehicle_12 : decode cX7_vehicle 12 = .ok (.iconst 1, 1) := by decide +kernel
theorem dX7_vehicle_13 : decode cX7_vehicle 13 = .ok (.sipush 200, 3) := by decide +kernel
theorem dX7_vehicle_16 : decode cX7_vehicle 16 = .ok (.invokestatic 70, 3) := by decide +kernel
theorem dX7_vehicle_19 : decode cX7_vehicle 19 = .ok (.ifCond .ne 6, 3) := by decide +kernel
theorem dX7_vehicle_22 : decode cX7_vehicle 22 = .ok (.ldc 74, 2) := by decide +kernel
theorem dX7_vehicle_24 : decode cX7_vehicle 24 = .ok (.ireturn, 1) := by decide +kernel
theorem dX7_vehicle_25 : decode cX7_vehicle 25 = .ok (.aload_n 0, 1) := by decide +kernel
theorem dX7_vehicle_26 : decode cX7_vehicle 26 = .ok (.getfield 7, 3) := by decide +kernel
theorem dX7_vehicle_29 : decode cX7_vehicle 29 = .ok (.iconst 4, 1) := by decide +kernel
theorem dX7_vehicle_30 : decode cX7_vehicle 30 = .ok (.iaload, 1) := by decide +kernel
theorem dX7_vehicle_31 : decode cX7_vehicle 31 = .ok (.istore_n 3, 1) := by decide +kernel
theorem dX7_vehicle_32 : decode cX7_vehicle 32 = .ok (.iload_n 3, 1) := by decide +kernel
theorem dX7_vehicle_33 : decode cX7_vehicle 33 = .ok (.iconst 4, 1) := by decide +kernel
theorem dX7_vehicle_34 : decode cX7_vehicle 34 = .ok (.if_icmp .ne 6, 3) := by decide +kernel
theorem dX7_vehicle_37 : decode cX7_vehicle 37 = .ok (.ldc 75, 2) := by decide +kernel
theorem dX7_vehicle_39 : decode cX7_vehicle 39 = .ok (.ireturn, 1) := by decide +kernel
theorem dX7_vehicle_40 : decode cX7_vehicle 40 = .ok (.aload_n 0, 1) := by decide +kernel
theorem dX7_vehicle_41 : decode cX7_vehicle 41 = .ok (.invokevirtual 76, 3) := by decide +kernel
theorem dX7_vehicle_44 : decode cX7_vehicle 44 = .ok (.iconst 0, 1) := by decide +kernel
theorem dX7_vehicle_45 : decode cX7_vehicle 45 = .ok (.istore 4, 2) := by decide +kernel
theorem dX7_vehicle_47 : decode cX7_vehicle 47 = .ok (.iload 4, 2) := by decide +kernel
theorem dX7_vehicle_49 : decode cX7_vehicle 49 = .ok (.bipush 8, 2) := by decide +kernel
theorem dX7_vehicle_51 : decode cX7_vehicle 51 = .ok (.if_icmp .ge 17, 3) := by decide +kernel
theorem dX7_vehicle_54 : decode cX7_vehicle 54 = .ok (.aload_n 0, 1) := by decide +kernel
theorem dX7_vehicle_55 : decode cX7_vehicle 55 = .ok (.iload_n 3, 1) := by decide +kernel
theorem dX7_vehicle_56 : decode cX7_vehicle 56 = .ok (.iload 4, 2) := by decide +kernel
theorem dX7_vehicle_58 : decode cX7_vehicle 58 = .ok (.iconst 0, 1) := by decide +kernel
theorem dX7_vehicle_59 : decode cX7_vehicle 59 = .ok (.invokevirtual 84, 3) := by decide +kernel
theorem dX7_vehicle_62 : decode cX7_vehicle 62 = .ok (.iinc 4 1, 3) := by decide +kernel
theorem dX7_vehicle_65 : decode cX7_vehicle 65 = .ok (.goto (-18), 3) := by decide +kernel
theorem dX7_vehicle_68 : decode cX7_vehicle 68 = .ok (.aload_n 0, 1) := by decide +kernel
theorem dX7_vehicle_69 : decode cX7_vehicle 69 = .ok (.iload_n 3, 1) := by decide +kernel
theorem dX7_vehicle_70 : decode cX7_vehicle 70 = .ok (.iconst 0, 1) := by decide +kernel
theorem dX7_vehicle_71 : decode cX7_vehicle 71 = .ok (.iload_n 1, 1) := by decide +kernel
theorem dX7_vehicle_72 : decode cX7_vehicle 72 = .ok (.invokevirtual 84, 3) := by decide +kernel
theorem dX7_vehicle_75 : decode cX7_vehicle 75 = .ok (.aload_n 0, 1) := by decide +kernel
theorem dX7_vehicle_76 : decode cX7_vehicle 76 = .ok (.iload_n 3, 1) := by decide +kernel
theorem dX7_vehicle_77 : decode cX7_vehicle 77 = .ok (.iconst 1, 1) := by decide +kernel
theorem dX7_vehicle_78 : decode cX7_vehicle 78 = .ok (.iload_n 2, 1) := by decide +kernel
theorem dX7_vehicle_79 : decode cX7_vehicle 79 = .ok (.invokevirtual 84, 3) := by decide +kernel
theorem dX7_vehicle_82 : decode cX7_vehicle 82 = .ok (.aload_n 0, 1) := by decide +kernel
theorem dX7_vehicle_83 : decode cX7_vehicle 83 = .ok (.getfield 7, 3) := by decide +kernel
theorem dX7_vehicle_86 : decode cX7_vehicle 86 = .ok (.iconst 4, 1) := by decide +kernel
theorem dX7_vehicle_87 : decode cX7_vehicle 87 = .ok (.dup2, 1) := by decide +kernel
theorem dX7_vehicle_88 : decode cX7_vehicle 88 = .ok (.iaload, 1) := by decide +kernel
theorem dX7_vehicle_89 : decode cX7_vehicle 89 = .ok (.iconst 1, 1) := by decide +kernel
theorem dX7_vehicle_90 : decode cX7_vehicle 90 = .ok (.iadd, 1) := by decide +kernel
theorem dX7_vehicle_91 : decode cX7_vehicle 91 = .ok (.iastore, 1) := by decide +kernel
theorem dX7_vehicle_92 : decode cX7_vehicle 92 = .ok (.iload_n 3, 1) := by decide +kernel
theorem dX7_vehicle_93 : decode cX7_vehicle 93 = .ok (.ireturn, 1) := by decide +kernel
theorem dX7_isIn_0 : decode cX7_isIn 0 = .ok (.aload_n 0, 1) := by decide +kernel
theorem dX7_isIn_1 : decode cX7_isIn 1 = .ok (.iload_n 1, 1) := by decide +kernel
theorem dX7_isIn_2 : decode cX7_isIn 2 = .ok (.invokevirtual 61, 3) := by decide +kernel
theorem dX7_isIn_5 : decode cX7_isIn 5 = .ok (.ifCond .eq 33, 3) := by decide +kernel
theorem dX7_isIn_8 : decode cX7_isIn 8 = .ok (.aload_n 0, 1) := by decide +kernel
theorem dX7_isIn_9 : decode cX7_isIn 9 = .ok (.iload_n 1, 1) := by decide +kernel
theorem dX7_isIn_10 : decode cX7_isIn 10 = .ok (.bipush 6, 2) := by decide +kernel
theorem dX7_isIn_12 : decode cX7_isIn 12 = .ok (.invokevirtual 57, 3) := by decide +kernel
theorem dX7_isIn_15 : decode cX7_isIn 15 = .ok (.iconst 1, 1) := by decide +kernel
theorem dX7_isIn_16 : decode cX7_isIn 16 = .ok (.iconst 2, 1) := by decide +kernel
theorem dX7_isIn_17 : decode cX7_isIn 17 = .ok (.invokestatic 70, 3) := by decide +kernel
theorem dX7_isIn_20 : decode cX7_isIn 20 = .ok (.ifCond .eq 18, 3) := by decide +kernel
theorem dX7_isIn_23 : decode cX7_isIn 23 = .ok (.aload_n 0, 1) := by decide +kernel
theorem dX7_isIn_24 : decode cX7_isIn 24 = .ok (.iload_n 1, 1) := by decide +kernel
theorem dX7_isIn_25 : decode cX7_isIn 25 = .ok (.bipush 7, 2) := by decide +kernel
theorem dX7_isIn_27 : decode cX7_isIn 27 = .ok (.invokevirtual 57, 3) := by decide +kernel
theorem dX7_isIn_30 : decode cX7_isIn 30 = .ok (.iload_n 2, 1) := by decide +kernel
theorem dX7_isIn_31 : decode cX7_isIn 31 = .ok (.if_icmp .ne 7, 3) := by decide +kernel
theorem dX7_isIn_34 : decode cX7_isIn 34 = .ok (.iconst 1, 1) := by decide +kernel
theorem dX7_isIn_35 : decode cX7_isIn 35 = .ok (.goto 4, 3) := by decide +kernel
theorem dX7_isIn_38 : decode cX7_isIn 38 = .ok (.iconst 0, 1) := by decide +kernel
theorem dX7_isIn_39 : decode cX7_isIn 39 = .ok (.ireturn, 1) := by decide +kernel
theorem dX7_loaded_0 : decode cX7_loaded 0 = .ok (.iconst 0, 1) := by decide +kernel
theorem dX7_loaded_1 : decode cX7_loaded 1 = .ok (.istore_n 3, 1) := by decide +kernel
theorem dX7_loaded_2 : decode cX7_loaded 2 = .ok (.iconst 0, 1) := by decide +kernel
theorem dX7_loaded_3 : decode cX7_loaded 3 = .ok (.istore 4, 2) := by decide +kernel
theorem dX7_loaded_5 : decode cX7_loaded 5 = .ok (.iload 4, 2) := by decide +kernel
theorem dX7_loaded_7 : decode cX7_loaded 7 = .ok (.aload_n 0, 1) := by decide +kernel
theorem dX7_loaded_8 : decode cX7_loaded 8 = .ok (.getfield 7, 3) := by decide +kernel
theorem dX7_loaded_11 : decode cX7_loaded 11 = .ok (.iconst 3, 1) := by decide +kernel
theorem dX7_loaded_12 : decode cX7_loaded 12 = .ok (.iaload, 1) := by decide +kernel
theorem dX7_loaded_13 : decode cX7_loaded 13 = .ok (.if_icmp .ge 33, 3) := by decide +kernel
theorem dX7_loaded_16 : decode cX7_loaded 16 = .ok (.iload_n 3, 1) := by decide +kernel
theorem dX7_loaded_17 : decode cX7_loaded 17 = .ok (.aload_n 0, 1) := by decide +kernel
theorem dX7_loaded_18 : decode cX7_loaded 18 = .ok (.iload 4, 2) := by decide +kernel
theorem dX7_loaded_20 : decode cX7_loaded 20 = .ok (.iload_n 1, 1) := by decide +kernel
theorem dX7_loaded_21 : decode cX7_loaded 21 = .ok (.invokevirtual 87, 3) := by decide +kernel
theorem dX7_loaded_24 : decode cX7_loaded 24 = .ok (.ifCond .eq 13, 3) := by decide +kernel
theorem dX7_loaded_27 : decode cX7_loaded 27 = .ok (.aload_n 0, 1) := by decide +kernel
theorem dX7_loaded_28 : decode cX7_loaded 28 = .ok (.iload 4, 2) := by decide +kernel
theorem dX7_loaded_30 : decode cX7_loaded 30 = .ok (.iload_n 2, 1) := by decide +kernel
theorem dX7_loaded_31 : decode cX7_loaded 31 = .ok (.invokevirtual 57, 3) := by decide +kernel
theorem dX7_loaded_34 : decode cX7_loaded 34 = .ok (.goto 4, 3) := by decide +kernel
theorem dX7_loaded_37 : decode cX7_loaded 37 = .ok (.iconst 0, 1) := by decide +kernel
theorem dX7_loaded_38 : decode cX7_loaded 38 = .ok (.iadd, 1) := by decide +kernel
theorem dX7_loaded_39 : decode cX7_loaded 39 = .ok (.istore_n 3, 1) := by decide +kernel
theorem dX7_loaded_40 : decode cX7_loaded 40 = .ok (.iinc 4 1, 3) := by decide +kernel
theorem dX7_loaded_43 : decode cX7_loaded 43 = .ok (.goto (-38), 3) := by decide +kernel
theorem dX7_loaded_46 : decode cX7_loaded 46 = .ok (.iload_n 3, 1) := by decide +kernel
theorem dX7_loaded_47 : decode cX7_loaded 47 = .ok (.ireturn, 1) := by decide +kernel
theorem dX7_loadSet_0 : decode cX7_loadSet 0 = .ok (.iconst 0, 1) := by decide +kernel
theorem dX7_loadSet_1 : decode cX7_loadSet 1 = .ok (.istore_n 2, 1) := by decide +kernel
theorem dX7_loadSet_2 : decode cX7_loadSet 2 = .ok (.iconst 0, 1) := by decide +kernel
theorem dX7_loadSet_3 : decode cX7_loadSet 3 = .ok (.istore_n 3, 1) := by decide +kernel
theorem dX7_loadSet_4 : decode cX7_loadSet 4 = .ok (.iload_n 3, 1) := by decide +kernel
theorem dX7_loadSet_5 : decode cX7_loadSet 5 = .ok (.aload_n 0, 1) := by decide +kernel
theorem dX7_loadSet_6 : decode cX7_loadSet 6 = .ok (.getfield 7, 3) := by decide +kernel
theorem dX7_loadSet_9 : decode cX7_loadSet 9 = .ok (.iconst 3, 1) := by decide +kernel
theorem dX7_loadSet_10 : decode cX7_loadSet 10 = .ok (.iaload, 1) := by decide +kernel
theorem dX7_loadSet_11 : decode cX7_loadSet 11 = .ok (.if_icmp .ge 28, 3) := by decide +kernel
theorem dX7_loadSet_14 : decode cX7_loadSet 14 = .ok (.iload_n 2, 1) := by decide +kernel
theorem dX7_loadSet_15 : decode cX7_loadSet 15 = .ok (.aload_n 0, 1) := by decide +kernel
theorem dX7_loadSet_16 : decode cX7_loadSet 16 = .ok (.iload_n 3, 1) := by decide +kernel
theorem dX7_loadSet_17 : decode cX7_loadSet 17 = .ok (.iload_n 1, 1) := by decide +kernel
theorem dX7_loadSet_18 : decode cX7_loadSet 18 = .ok (.invokevirtual 87, 3) := by decide +kernel
theorem dX7_loadSet_21 : decode cX7_loadSet 21 = .ok (.ifCond .eq 9, 3) := by decide +kernel
theorem dX7_loadSet_24 : decode cX7_loadSet 24 = .ok (.iconst 1, 1) := by decide +kernel
theorem dX7_loadSet_25 : decode cX7_loadSet 25 = .ok (.iload_n 3, 1) := by decide +kernel
theorem dX7_loadSet_26 : decode cX7_loadSet 26 = .ok (.ishl, 1) := by decide +kernel
theorem dX7_loadSet_27 : decode cX7_loadSet 27 = .ok (.goto 4, 3) := by decide +kernel
theorem dX7_loadSet_30 : decode cX7_loadSet 30 = .ok (.iconst 0, 1) := by decide +kernel
theorem dX7_loadSet_31 : decode cX7_loadSet 31 = .ok (.ior, 1) := by decide +kernel
theorem dX7_loadSet_32 : decode cX7_loadSet 32 = .ok (.istore_n 2, 1) := by decide +kernel
theorem dX7_loadSet_33 : decode cX7_loadSet 33 = .ok (.iinc 3 1, 3) := by decide +kernel
theorem dX7_loadSet_36 : decode cX7_loadSet 36 = .ok (.goto (-32), 3) := by decide +kernel
theorem dX7_loadSet_39 : decode cX7_loadSet 39 = .ok (.iload_n 2, 1) := by decide +kernel
theorem dX7_loadSet_40 : decode cX7_loadSet 40 = .ok (.ireturn, 1) := by decide +kernel
theorem dX7_goal_0 : decode cX7_goal 0 = .ok (.aload_n 0, 1) := by decide +kernel
theorem dX7_goal_1 : decode cX7_goal 1 = .ok (.iload_n 1, 1) := by decide +kernel
theorem dX7_goal_2 : decode cX7_goal 2 = .ok (.iconst 2, 1) := by decide +kernel
theorem dX7_goal_3 : decode cX7_goal 3 = .ok (.invokevirtual 91, 3) := by decide +kernel
theorem dX7_goal_6 : decode cX7_goal 6 = .ok (.ifCond .ne 8, 3) := by decide +kernel
theorem dX7_goal_9 : decode cX7_goal 9 = .ok (.ldc 69, 2) := by decide +kernel
theorem dX7_goal_11 : decode cX7_goal 11 = .ok (.goto 9, 3) := by decide +kernel
theorem dX7_goal_14 : decode cX7_goal 14 = .ok (.aload_n 0, 1) := by decide +kernel
theorem dX7_goal_15 : decode cX7_goal 15 = .ok (.iload_n 1, 1) := by decide +kernel
theorem dX7_goal_16 : decode cX7_goal 16 = .ok (.iconst 3, 1) := by decide +kernel
theorem dX7_goal_17 : decode cX7_goal 17 = .ok (.invokevirtual 91, 3) := by decide +kernel
theorem dX7_goal_20 : decode cX7_goal 20 = .ok (.istore_n 2, 1) := by decide +kernel
theorem dX7_goal_21 : decode cX7_goal 21 = .ok (.iconst 0, 1) := by decide +kernel
theorem dX7_goal_22 : decode cX7_goal 22 = .ok (.istore_n 3, 1) := by decide +kernel
theorem dX7_goal_23 : decode cX7_goal 23 = .ok (.iload_n 3, 1) := by decide +kernel
theorem dX7_goal_24 : decode cX7_goal 24 = .ok (.aload_n 0, 1) := by decide +kernel
theorem dX7_goal_25 : decode cX7_goal 25 = .ok (.getfield 7, 3) := by decide +kernel
theorem dX7_goal_28 : decode cX7_goal 28 = .ok (.iconst 3, 1) := by decide +kernel
theorem dX7_goal_29 : decode cX7_goal 29 = .ok (.iaload, 1) := by decide +kernel
theorem dX7_goal_30 : decode cX7_goal 30 = .ok (.if_icmp .ge 29, 3) := by decide +kernel
theorem dX7_goal_33 : decode cX7_goal 33 = .ok (.aload_n 0, 1) := by decide +kernel
theorem dX7_goal_34 : decode cX7_goal 34 = .ok (.iload_n 3, 1) := by decide +kernel
theorem dX7_goal_35 : decode cX7_goal 35 = .ok (.iload_n 1, 1) := by decide +kernel
theorem dX7_goal_36 : decode cX7_goal 36 = .ok (.invokevirtual 87, 3) := by decide +kernel
theorem dX7_goal_39 : decode cX7_goal 39 = .ok (.ifCond .eq 12, 3) := by decide +kernel
theorem dX7_goal_42 : decode cX7_goal 42 = .ok (.aload_n 0, 1) := by decide +kernel
theorem dX7_goal_43 : decode cX7_goal 43 = .ok (.iload_n 3, 1) := by decide +kernel
theorem dX7_goal_44 : decode cX7_goal 44 = .ok (.iconst 0, 1) := by decide +kernel
theorem dX7_goal_45 : decode cX7_goal 45 = .ok (.invokevirtual 57, 3) := by decide +kernel
theorem dX7_goal_48 : decode cX7_goal 48 = .ok (.goto 4, 3) := by decide +kernel
theorem dX7_goal_51 : decode cX7_goal 51 = .ok (.iload_n 2, 1) := by decide +kernel
theorem dX7_goal_52 : decode cX7_goal 52 = .ok (.istore_n 2, 1) := by decide +kernel
theorem dX7_goal_53 : decode cX7_goal 53 = .ok (.iinc 3 1, 3) := by decide +kernel
theorem dX7_goal_56 : decode cX7_goal 56 = .ok (.goto (-33), 3) := by decide +kernel
theorem dX7_goal_59 : decode cX7_goal 59 = .ok (.iload_n 2, 1) := by decide +kernel
theorem dX7_goal_60 : decode cX7_goal 60 = .ok (.ireturn, 1) := by decide +kernel
theorem dX7_canLoad_0 : decode cX7_canLoad 0 = .ok (.aload_n 0, 1) := by decide +kernel
theorem dX7_canLoad_1 : decode cX7_canLoad 1 = .ok (.iload_n 1, 1) := by decide +kernel
theorem dX7_canLoad_2 : decode cX7_canLoad 2 = .ok (.bipush 6, 2) := by decide +kernel
theorem dX7_canLoad_4 : decode cX7_canLoad 4 = .ok (.invokevirtual 57, 3) := by decide +kernel
theorem dX7_canLoad_7 : decode cX7_canLoad 7 = .ok (.ifCond .ne 38, 3) := by decide +kernel
theorem dX7_canLoad_10 : decode cX7_canLoad 10 = .ok (.aload_n 0, 1) := by decide +kernel
theorem dX7_canLoad_11 : decode cX7_canLoad 11 = .ok (.iload_n 2, 1) := by decide +kernel
theorem dX7_canLoad_12 : decode cX7_canLoad 12 = .ok (.iconst 2, 1) := by decide +kernel
theorem dX7_canLoad_13 : decode cX7_canLoad 13 = .ok (.invokevirtual 91, 3) := by decide +kernel
theorem dX7_canLoad_16 : decode cX7_canLoad 16 = .ok (.ifCond .ne 29, 3) := by decide +kernel
theorem dX7_canLoad_19 : decode cX7_canLoad 19 = .ok (.aload_n 0, 1) := by decide +kernel
theorem dX7_canLoad_20 : decode cX7_canLoad 20 = .ok (.iload_n 2, 1) := by decide +kernel
theorem dX7_canLoad_21 : decode cX7_canLoad 21 = .ok (.invokevirtual 94, 3) := by decide +kernel
theorem dX7_canLoad_24 : decode cX7_canLoad 24 = .ok (.ifCond .lt 17, 3) := by decide +kernel
theorem dX7_canLoad_27 : decode cX7_canLoad 27 = .ok (.aload_n 0, 1) := by decide +kernel
theorem dX7_canLoad_28 : decode cX7_canLoad 28 = .ok (.iload_n 2, 1) := by decide +kernel
theorem dX7_canLoad_29 : decode cX7_canLoad 29 = .ok (.invokevirtual 94, 3) := by decide +kernel
theorem dX7_canLoad_32 : decode cX7_canLoad 32 = .ok (.aload_n 0, 1) := by decide +kernel
theorem dX7_canLoad_33 : decode cX7_canLoad 33 = .ok (.iload_n 1, 1) := by decide +kernel
theorem dX7_canLoad_34 : decode cX7_canLoad 34 = .ok (.iconst 0, 1) := by decide +kernel
theorem dX7_canLoad_35 : decode cX7_canLoad 35 = .ok (.invokevirtual 57, 3) := by decide +kernel
theorem dX7_canLoad_38 : decode cX7_canLoad 38 = .ok (.if_icmp .ne 7, 3) := by decide +kernel
theorem dX7_canLoad_41 : decode cX7_canLoad 41 = .ok (.iconst 1, 1) := by decide +kernel
theorem dX7_canLoad_42 : decode cX7_canLoad 42 = .ok (.goto 4, 3) := by decide +kernel
theorem dX7_canLoad_45 : decode cX7_canLoad 45 = .ok (.iconst 0, 1) := by decide +kernel
theorem dX7_canLoad_46 : decode cX7_canLoad 46 = .ok (.istore_n 3, 1) := by decide +kernel
theorem dX7_canLoad_47 : decode cX7_canLoad 47 = .ok (.iload_n 3, 1) := by decide +kernel
theorem dX7_canLoad_48 : decode cX7_canLoad 48 = .ok (.ifCond .eq 51, 3) := by decide +kernel
theorem dX7_canLoad_51 : decode cX7_canLoad 51 = .ok (.aload_n 0, 1) := by decide +kernel
theorem dX7_canLoad_52 : decode cX7_canLoad 52 = .ok (.iload_n 2, 1) := by decide +kernel
theorem dX7_canLoad_53 : decode cX7_canLoad 53 = .ok (.iconst 1, 1) := by decide +kernel
theorem dX7_canLoad_54 : decode cX7_canLoad 54 = .ok (.invokevirtual 98, 3) := by decide +kernel
theorem dX7_canLoad_57 : decode cX7_canLoad 57 = .ok (.aload_n 0, 1) := by decide +kernel
theorem dX7_canLoad_58 : decode cX7_canLoad 58 = .ok (.iload_n 1, 1) := by decide +kernel
theorem dX7_canLoad_59 : decode cX7_canLoad 59 = .ok (.iconst 1, 1) := by decide +kernel
theorem dX7_canLoad_60 : decode cX7_canLoad 60 = .ok (.invokevirtual 57, 3) := by decide +kernel
theorem dX7_canLoad_63 : decode cX7_canLoad 63 = .ok (.iadd, 1) := by decide +kernel
theorem dX7_canLoad_64 : decode cX7_canLoad 64 = .ok (.aload_n 0, 1) := by decide +kernel
theorem dX7_canLoad_65 : decode cX7_canLoad 65 = .ok (.iload_n 2, 1) := by decide +kernel
theorem dX7_canLoad_66 : decode cX7_canLoad 66 = .ok (.iconst 0, 1) := by decide +kernel
theorem dX7_canLoad_67 : decode cX7_canLoad 67 = .ok (.invokevirtual 91, 3) := by decide +kernel
theorem dX7_canLoad_70 : decode cX7_canLoad 70 = .ok (.if_icmp .gt 29, 3) := by decide +kernel
theorem dX7_canLoad_73 : decode cX7_canLoad 73 = .ok (.aload_n 0, 1) := by decide +kernel
theorem dX7_canLoad_74 : decode cX7_canLoad 74 = .ok (.iload_n 2, 1) := by decide +kernel
theorem dX7_canLoad_75 : decode cX7_canLoad 75 = .ok (.iconst 2, 1) := by decide +kernel
theorem dX7_canLoad_76 : decode cX7_canLoad 76 = .ok (.invokevirtual 98, 3) := by decide +kernel
theorem dX7_canLoad_79 : decode cX7_canLoad 79 = .ok (.aload_n 0, 1) := by decide +kernel
theorem dX7_canLoad_80 : decode cX7_canLoad 80 = .ok (.iload_n 1, 1) := by decide +kernel
theorem dX7_canLoad_81 : decode cX7_canLoad 81 = .ok (.iconst 2, 1) := by decide +kernel
theorem dX7_canLoad_82 : decode cX7_canLoad 82 = .ok (.invokevirtual 57, 3) := by decide +kernel
theorem dX7_canLoad_85 : decode cX7_canLoad 85 = .ok (.iadd, 1) := by decide +kernel
theorem dX7_canLoad_86 : decode cX7_canLoad 86 = .ok (.aload_n 0, 1) := by decide +kernel
theorem dX7_canLoad_87 : decode cX7_canLoad 87 = .ok (.iload_n 2, 1) := by decide +kernel
theorem dX7_canLoad_88 : decode cX7_canLoad 88 = .ok (.iconst 1, 1) := by decide +kernel
theorem dX7_canLoad_89 : decode cX7_canLoad 89 = .ok (.invokevirtual 91, 3) := by decide +kernel
theorem dX7_canLoad_92 : decode cX7_canLoad 92 = .ok (.if_icmp .gt 7, 3) := by decide +kernel
theorem dX7_canLoad_95 : decode cX7_canLoad 95 = .ok (.iconst 1, 1) := by decide +kernel
theorem dX7_canLoad_96 : decode cX7_canLoad 96 = .ok (.goto 4, 3) := by decide +kernel
theorem dX7_canLoad_99 : decode cX7_canLoad 99 = .ok (.iconst 0, 1) := by decide +kernel
theorem dX7_canLoad_100 : decode cX7_canLoad 100 = .ok (.ireturn, 1) := by decide +kernel
theorem dX7_loads_0 : decode cX7_loads 0 = .ok (.aload_n 0, 1) := by decide +kernel
theorem dX7_loads_1 : decode cX7_loads 1 = .ok (.iload_n 1, 1) := by decide +kernel
theorem dX7_loads_2 : decode cX7_loads 2 = .ok (.bipush 6, 2) := by decide +kernel
theorem dX7_loads_4 : decode cX7_loads 4 = .ok (.iconst 1, 1) := by decide +kernel
theorem dX7_loads_5 : decode cX7_loads 5 = .ok (.invokevirtual 65, 3) := by decide +kernel
theorem dX7_loads_8 : decode cX7_loads 8 = .ok (.aload_n 0, 1) := by decide +kernel
theorem dX7_loads_9 : decode cX7_loads 9 = .ok (.iload_n 1, 1) := by decide +kernel
theorem dX7_loads_10 : decode cX7_loads 10 = .ok (.bipush 7, 2) := by decide +kernel
theorem dX7_loads_12 : decode cX7_loads 12 = .ok (.iload_n 2, 1) := by decide +kernel
theorem dX7_loads_13 : decode cX7_loads 13 = .ok (.invokevirtual 65, 3) := by decide +kernel
theorem dX7_loads_16 : decode cX7_loads 16 = .ok (.return_, 1) := by decide +kernel
theorem dX7_load_0 : decode cX7_load 0 = .ok (.aload_n 0, 1) := by decide +kernel
theorem dX7_load_1 : decode cX7_load 1 = .ok (.iload_n 1, 1) := by decide +kernel
theorem dX7_load_2 : decode cX7_load 2 = .ok (.invokevirtual 61, 3) := by decide +kernel
theorem dX7_load_5 : decode cX7_load 5 = .ok (.ifCond .eq 11, 3) := by decide +kernel
theorem dX7_load_8 : decode cX7_load 8 = .ok (.aload_n 0, 1) := by decide +kernel
theorem dX7_load_9 : decode cX7_load 9 = .ok (.iload_n 2, 1) := by decide +kernel
theorem dX7_load_10 : decode cX7_load 10 = .ok (.invokevirtual 101, 3) := by decide +kernel
theorem dX7_load_13 : decode cX7_load 13 = .ok (.ifCond .ne 6, 3) := by decide +kernel
theorem dX7_load_16 : decode cX7_load 16 = .ok (.ldc 74, 2) := by decide +kernel
theorem dX7_load_18 : decode cX7_load 18 = .ok (.ireturn, 1) := by decide +kernel
theorem dX7_load_19 : decode cX7_load 19 = .ok (.aload_n 0, 1) := by decide +kernel
theorem dX7_load_20 : decode cX7_load 20 = .ok (.iload_n 1, 1) := by decide +kernel
theorem dX7_load_21 : decode cX7_load 21 = .ok (.iload_n 2, 1) := by decide +kernel
theorem dX7_load_22 : decode cX7_load 22 = .ok (.invokevirtual 104, 3) := by decide +kernel
theorem dX7_load_25 : decode cX7_load 25 = .ok (.ifCond .ne 6, 3) := by decide +kernel
theorem dX7_load_28 : decode cX7_load 28 = .ok (.ldc 83, 2) := by decide +kernel
theorem dX7_load_30 : decode cX7_load 30 = .ok (.ireturn, 1) := by decide +kernel
theorem dX7_load_31 : decode cX7_load 31 = .ok (.aload_n 0, 1) := by decide +kernel
theorem dX7_load_32 : decode cX7_load 32 = .ok (.invokevirtual 76, 3) := by decide +kernel
theorem dX7_load_35 : decode cX7_load 35 = .ok (.aload_n 0, 1) := by decide +kernel
theorem dX7_load_36 : decode cX7_load 36 = .ok (.iload_n 1, 1) := by decide +kernel
theorem dX7_load_37 : decode cX7_load 37 = .ok (.iload_n 2, 1) := by decide +kernel
theorem dX7_load_38 : decode cX7_load 38 = .ok (.invokevirtual 107, 3) := by decide +kernel
theorem dX7_load_41 : decode cX7_load 41 = .ok (.aload_n 0, 1) := by decide +kernel
theorem dX7_load_42 : decode cX7_load 42 = .ok (.iload_n 2, 1) := by decide +kernel
theorem dX7_load_43 : decode cX7_load 43 = .ok (.iconst 0, 1) := by decide +kernel
theorem dX7_load_44 : decode cX7_load 44 = .ok (.invokevirtual 91, 3) := by decide +kernel
theorem dX7_load_47 : decode cX7_load 47 = .ok (.aload_n 0, 1) := by decide +kernel
theorem dX7_load_48 : decode cX7_load 48 = .ok (.iload_n 2, 1) := by decide +kernel
theorem dX7_load_49 : decode cX7_load 49 = .ok (.iconst 1, 1) := by decide +kernel
theorem dX7_load_50 : decode cX7_load 50 = .ok (.invokevirtual 98, 3) := by decide +kernel
theorem dX7_load_53 : decode cX7_load 53 = .ok (.isub, 1) := by decide +kernel
theorem dX7_load_54 : decode cX7_load 54 = .ok (.ireturn, 1) := by decide +kernel
theorem dX7_unload_0 : decode cX7_unload 0 = .ok (.aload_n 0, 1) := by decide +kernel
theorem dX7_unload_1 : decode cX7_unload 1 = .ok (.iload_n 1, 1) := by decide +kernel
theorem dX7_unload_2 : decode cX7_unload 2 = .ok (.invokevirtual 61, 3) := by decide +kernel
theorem dX7_unload_5 : decode cX7_unload 5 = .ok (.ifCond .ne 6, 3) := by decide +kernel
theorem dX7_unload_8 : decode cX7_unload 8 = .ok (.ldc 74, 2) := by decide +kernel
theorem dX7_unload_10 : decode cX7_unload 10 = .ok (.ireturn, 1) := by decide +kernel
theorem dX7_unload_11 : decode cX7_unload 11 = .ok (.aload_n 0, 1) := by decide +kernel
theorem dX7_unload_12 : decode cX7_unload 12 = .ok (.iload_n 1, 1) := by decide +kernel
theorem dX7_unload_13 : decode cX7_unload 13 = .ok (.bipush 6, 2) := by decide +kernel
theorem dX7_unload_15 : decode cX7_unload 15 = .ok (.invokevirtual 57, 3) := by decide +kernel
theorem dX7_unload_18 : decode cX7_unload 18 = .ok (.iconst 1, 1) := by decide +kernel
theorem dX7_unload_19 : decode cX7_unload 19 = .ok (.if_icmp .eq 6, 3) := by decide +kernel
theorem dX7_unload_22 : decode cX7_unload 22 = .ok (.ldc 83, 2) := by decide +kernel
theorem dX7_unload_24 : decode cX7_unload 24 = .ok (.ireturn, 1) := by decide +kernel
theorem dX7_unload_25 : decode cX7_unload 25 = .ok (.aload_n 0, 1) := by decide +kernel
theorem dX7_unload_26 : decode cX7_unload 26 = .ok (.invokevirtual 76, 3) := by decide +kernel
theorem dX7_unload_29 : decode cX7_unload 29 = .ok (.aload_n 0, 1) := by decide +kernel
theorem dX7_unload_30 : decode cX7_unload 30 = .ok (.iload_n 1, 1) := by decide +kernel
theorem dX7_unload_31 : decode cX7_unload 31 = .ok (.bipush 6, 2) := by decide +kernel
theorem dX7_unload_33 : decode cX7_unload 33 = .ok (.iconst 0, 1) := by decide +kernel
theorem dX7_unload_34 : decode cX7_unload 34 = .ok (.invokevirtual 65, 3) := by decide +kernel
theorem dX7_unload_37 : decode cX7_unload 37 = .ok (.aload_n 0, 1) := by decide +kernel
theorem dX7_unload_38 : decode cX7_unload 38 = .ok (.iload_n 1, 1) := by decide +kernel
theorem dX7_unload_39 : decode cX7_unload 39 = .ok (.bipush 7, 2) := by decide +kernel
theorem dX7_unload_41 : decode cX7_unload 41 = .ok (.invokevirtual 57, 3) := by decide +kernel
theorem dX7_unload_44 : decode cX7_unload 44 = .ok (.ireturn, 1) := by decide +kernel
theorem dX7_isAhead_0 : decode cX7_isAhead 0 = .ok (.iload_n 3, 1) := by decide +kernel
theorem dX7_isAhead_1 : decode cX7_isAhead 1 = .ok (.ifCond .ne 19, 3) := by decide +kernel
theorem dX7_isAhead_4 : decode cX7_isAhead 4 = .ok (.aload_n 0, 1) := by decide +kernel
theorem dX7_isAhead_5 : decode cX7_isAhead 5 = .ok (.iload_n 1, 1) := by decide +kernel
theorem dX7_isAhead_6 : decode cX7_isAhead 6 = .ok (.iconst 4, 1) := by decide +kernel
theorem dX7_isAhead_7 : decode cX7_isAhead 7 = .ok (.invokevirtual 57, 3) := by decide +kernel
theorem dX7_isAhead_10 : decode cX7_isAhead 10 = .ok (.aload_n 0, 1) := by decide +kernel
theorem dX7_isAhead_11 : decode cX7_isAhead 11 = .ok (.iload_n 2, 1) := by decide +kernel
theorem dX7_isAhead_12 : decode cX7_isAhead 12 = .ok (.iconst 4, 1) := by decide +kernel
theorem dX7_isAhead_13 : decode cX7_isAhead 13 = .ok (.invokevirtual 57, 3) := by decide +kernel
theorem dX7_isAhead_16 : decode cX7_isAhead 16 = .ok (.isub, 1) := by decide +kernel
theorem dX7_isAhead_17 : decode cX7_isAhead 17 = .ok (.goto 51, 3) := by decide +kernel
theorem dX7_isAhead_20 : decode cX7_isAhead 20 = .ok (.iload_n 3, 1) := by decide +kernel
theorem dX7_isAhead_21 : decode cX7_isAhead 21 = .ok (.iconst 1, 1) := by decide +kernel
theorem dX7_isAhead_22 : decode cX7_isAhead 22 = .ok (.if_icmp .ne 19, 3) := by decide +kernel
theorem dX7_isAhead_25 : decode cX7_isAhead 25 = .ok (.aload_n 0, 1) := by decide +kernel
theorem dX7_isAhead_26 : decode cX7_isAhead 26 = .ok (.iload_n 2, 1) := by decide +kernel
theorem dX7_isAhead_27 : decode cX7_isAhead 27 = .ok (.iconst 5, 1) := by decide +kernel
theorem dX7_isAhead_28 : decode cX7_isAhead 28 = .ok (.invokevirtual 57, 3) := by decide +kernel
theorem dX7_isAhead_31 : decode cX7_isAhead 31 = .ok (.aload_n 0, 1) := by decide +kernel
theorem dX7_isAhead_32 : decode cX7_isAhead 32 = .ok (.iload_n 1, 1) := by decide +kernel
theorem dX7_isAhead_33 : decode cX7_isAhead 33 = .ok (.iconst 5, 1) := by decide +kernel
theorem dX7_isAhead_34 : decode cX7_isAhead 34 = .ok (.invokevirtual 57, 3) := by decide +kernel
theorem dX7_isAhead_37 : decode cX7_isAhead 37 = .ok (.isub, 1) := by decide +kernel
theorem dX7_isAhead_38 : decode cX7_isAhead 38 = .ok (.goto 30, 3) := by decide +kernel
theorem dX7_isAhead_41 : decode cX7_isAhead 41 = .ok (.aload_n 0, 1) := by decide +kernel
theorem dX7_isAhead_42 : decode cX7_isAhead 42 = .ok (.iload_n 2, 1) := by decide +kernel
theorem dX7_isAhead_43 : decode cX7_isAhead 43 = .ok (.iconst 5, 1) := by decide +kernel
theorem dX7_isAhead_44 : decode cX7_isAhead 44 = .ok (.invokevirtual 57, 3) := by decide +kernel
theorem dX7_isAhead_47 : decode cX7_isAhead 47 = .ok (.aload_n 0, 1) := by decide +kernel
theorem dX7_isAhead_48 : decode cX7_isAhead 48 = .ok (.iload_n 1, 1) := by decide +kernel
theorem dX7_isAhead_49 : decode cX7_isAhead 49 = .ok (.iconst 1, 1) := by decide +kernel
theorem dX7_isAhead_50 : decode cX7_isAhead 50 = .ok (.invokevirtual 57, 3) := by decide +kernel
theorem dX7_isAhead_53 : decode cX7_isAhead 53 = .ok (.imul, 1) := by decide +kernel
theorem dX7_isAhead_54 : decode cX7_isAhead 54 = .ok (.aload_n 0, 1) := by decide +kernel
theorem dX7_isAhead_55 : decode cX7_isAhead 55 = .ok (.iload_n 1, 1) := by decide +kernel
theorem dX7_isAhead_56 : decode cX7_isAhead 56 = .ok (.iconst 5, 1) := by decide +kernel
theorem dX7_isAhead_57 : decode cX7_isAhead 57 = .ok (.invokevirtual 57, 3) := by decide +kernel
theorem dX7_isAhead_60 : decode cX7_isAhead 60 = .ok (.aload_n 0, 1) := by decide +kernel
theorem dX7_isAhead_61 : decode cX7_isAhead 61 = .ok (.iload_n 2, 1) := by decide +kernel
theorem dX7_isAhead_62 : decode cX7_isAhead 62 = .ok (.iconst 1, 1) := by decide +kernel
theorem dX7_isAhead_63 : decode cX7_isAhead 63 = .ok (.invokevirtual 57, 3) := by decide +kernel
theorem dX7_isAhead_66 : decode cX7_isAhead 66 = .ok (.imul, 1) := by decide +kernel
theorem dX7_isAhead_67 : decode cX7_isAhead 67 = .ok (.isub, 1) := by decide +kernel
theorem dX7_isAhead_68 : decode cX7_isAhead 68 = .ok (.istore 4, 2) := by decide +kernel
theorem dX7_isAhead_70 : decode cX7_isAhead 70 = .ok (.iload 4, 2) := by decide +kernel
theorem dX7_isAhead_72 : decode cX7_isAhead 72 = .ok (.ifCond .lt 13, 3) := by decide +kernel
theorem dX7_isAhead_75 : decode cX7_isAhead 75 = .ok (.iload 4, 2) := by decide +kernel
theorem dX7_isAhead_77 : decode cX7_isAhead 77 = .ok (.ifCond .ne 12, 3) := by decide +kernel
theorem dX7_isAhead_80 : decode cX7_isAhead 80 = .ok (.iload_n 1, 1) := by decide +kernel
theorem dX7_isAhead_81 : decode cX7_isAhead 81 = .ok (.iload_n 2, 1) := by decide +kernel
theorem dX7_isAhead_82 : decode cX7_isAhead 82 = .ok (.if_icmp .ge 7, 3) := by decide +kernel
theorem dX7_isAhead_85 : decode cX7_isAhead 85 = .ok (.iconst 1, 1) := by decide +kernel
theorem dX7_isAhead_86 : decode cX7_isAhead 86 = .ok (.goto 4, 3) := by decide +kernel
theorem dX7_isAhead_89 : decode cX7_isAhead 89 = .ok (.iconst 0, 1) := by decide +kernel
theorem dX7_isAhead_90 : decode cX7_isAhead 90 = .ok (.ireturn, 1) := by decide +kernel
theorem dX7_fills_0 : decode cX7_fills 0 = .ok (.iconst 0, 1) := by decide +kernel
theorem dX7_fills_1 : decode cX7_fills 1 = .ok (.istore 4, 2) := by decide +kernel
theorem dX7_fills_3 : decode cX7_fills 3 = .ok (.iconst 0, 1) := by decide +kernel
theorem dX7_fills_4 : decode cX7_fills 4 = .ok (.istore 5, 2) := by decide +kernel
theorem dX7_fills_6 : decode cX7_fills 6 = .ok (.iconst 0, 1) := by decide +kernel
theorem dX7_fills_7 : decode cX7_fills 7 = .ok (.istore 6, 2) := by decide +kernel
theorem dX7_fills_9 : decode cX7_fills 9 = .ok (.iload 6, 2) := by decide +kernel
theorem dX7_fills_11 : decode cX7_fills 11 = .ok (.ifCond .lt 149, 3) := by decide +kernel
theorem dX7_fills_14 : decode cX7_fills 14 = .ok (.ldc 69, 2) := by decide +kernel
theorem dX7_fills_16 : decode cX7_fills 16 = .ok (.istore 6, 2) := by decide +kernel
theorem dX7_fills_18 : decode cX7_fills 18 = .ok (.iconst 0, 1) := by decide +kernel
theorem dX7_fills_19 : decode cX7_fills 19 = .ok (.istore 7, 2) := by decide +kernel
theorem dX7_fills_21 : decode cX7_fills 21 = .ok (.iload 7, 2) := by decide +kernel
theorem dX7_fills_23 : decode cX7_fills 23 = .ok (.aload_n 0, 1) := by decide +kernel
theorem dX7_fills_24 : decode cX7_fills 24 = .ok (.getfield 7, 3) := by decide +kernel
theorem dX7_fills_27 : decode cX7_fills 27 = .ok (.iconst 3, 1) := by decide +kernel
theorem dX7_fills_28 : decode cX7_fills 28 = .ok (.iaload, 1) := by decide +kernel
theorem dX7_fills_29 : decode cX7_fills 29 = .ok (.if_icmp .ge 88, 3) := by decide +kernel
theorem dX7_fills_32 : decode cX7_fills 32 = .ok (.aload_n 0, 1) := by decide +kernel
theorem dX7_fills_33 : decode cX7_fills 33 = .ok (.iload 7, 2) := by decide +kernel
theorem dX7_fills_35 : decode cX7_fills 35 = .ok (.invokevirtual 61, 3) := by decide +kernel
theorem dX7_fills_38 : decode cX7_fills 38 = .ok (.ifCond .eq 39, 3) := by decide +kernel
theorem dX7_fills_41 : decode cX7_fills 41 = .ok (.aload_n 0, 1) := by decide +kernel
theorem dX7_fills_42 : decode cX7_fills 42 = .ok (.iload 7, 2) := by decide +kernel
theorem dX7_fills_44 : decode cX7_fills 44 = .ok (.bipush 6, 2) := by decide +kernel
theorem dX7_fills_46 : decode cX7_fills 46 = .ok (.invokevirtual 57, 3) := by decide +kernel
theorem dX7_fills_49 : decode cX7_fills 49 = .ok (.ifCond .ne 28, 3) := by decide +kernel
theorem dX7_fills_52 : decode cX7_fills 52 = .ok (.aload_n 0, 1) := by decide +kernel
theorem dX7_fills_53 : decode cX7_fills 53 = .ok (.iload 7, 2) := by decide +kernel
theorem dX7_fills_55 : decode cX7_fills 55 = .ok (.iconst 0, 1) := by decide +kernel
theorem dX7_fills_56 : decode cX7_fills 56 = .ok (.invokevirtual 57, 3) := by decide +kernel
theorem dX7_fills_59 : decode cX7_fills 59 = .ok (.iload_n 2, 1) := by decide +kernel
theorem dX7_fills_60 : decode cX7_fills 60 = .ok (.if_icmp .ne 17, 3) := by decide +kernel
theorem dX7_fills_63 : decode cX7_fills 63 = .ok (.iload 4, 2) := by decide +kernel
theorem dX7_fills_65 : decode cX7_fills 65 = .ok (.iload 7, 2) := by decide +kernel
theorem dX7_fills_67 : decode cX7_fills 67 = .ok (.ishr, 1) := by decide +kernel
theorem dX7_fills_68 : decode cX7_fills 68 = .ok (.iconst 1, 1) := by decide +kernel
theorem dX7_fills_69 : decode cX7_fills 69 = .ok (.iand, 1) := by decide +kernel
theorem dX7_fills_70 : decode cX7_fills 70 = .ok (.ifCond .ne 7, 3) := by decide +kernel
theorem dX7_fills_73 : decode cX7_fills 73 = .ok (.iconst 1, 1) := by decide +kernel
theorem dX7_fills_74 : decode cX7_fills 74 = .ok (.goto 4, 3) := by decide +kernel
theorem dX7_fills_77 : decode cX7_fills 77 = .ok (.iconst 0, 1) := by decide +kernel
theorem dX7_fills_78 : decode cX7_fills 78 = .ok (.istore 8, 2) := by decide +kernel
theorem dX7_fills_80 : decode cX7_fills 80 = .ok (.iload 8, 2) := by decide +kernel
theorem dX7_fills_82 : decode cX7_fills 82 = .ok (.ifCond .eq 25, 3) := by decide +kernel
theorem dX7_fills_85 : decode cX7_fills 85 = .ok (.iload 6, 2) := by decide +kernel
theorem dX7_fills_87 : decode cX7_fills 87 = .ok (.ifCond .lt 15, 3) := by decide +kernel
theorem dX7_fills_90 : decode cX7_fills 90 = .ok (.aload_n 0, 1) := by decide +kernel
theorem dX7_fills_91 : decode cX7_fills 91 = .ok (.iload 7, 2) := by decide +kernel
theorem dX7_fills_93 : decode cX7_fills 93 = .ok (.iload 6, 2) := by decide +kernel
theorem dX7_fills_95 : decode cX7_fills 95 = .ok (.iload_n 3, 1) := by decide +kernel
theorem dX7_fills_96 : decode cX7_fills 96 = .ok (.invokevirtual 111, 3) := by decide +kernel
theorem dX7_fills_99 : decode cX7_fills 99 = .ok (.ifCond .eq 8, 3) := by decide +kernel
theorem dX7_fills_102 : decode cX7_fills 102 = .ok (.iload 7, 2) := by decide +kernel
theorem dX7_fills_104 : decode cX7_fills 104 = .ok (.goto 5, 3) := by decide +kernel
theorem dX7_fills_107 : decode cX7_fills 107 = .ok (.iload 6, 2) := by decide +kernel
theorem dX7_fills_109 : decode cX7_fills 109 = .ok (.istore 6, 2) := by decide +kernel
theorem dX7_fills_111 : decode cX7_fills 111 = .ok (.iinc 7 1, 3) := by decide +kernel
theorem dX7_fills_114 : decode cX7_fills 114 = .ok (.goto (-93), 3) := by decide +kernel
theorem dX7_fills_117 : decode cX7_fills 117 = .ok (.iload 6, 2) := by decide +kernel
theorem dX7_fills_119 : decode cX7_fills 119 = .ok (.ifCond .lt (-110), 3) := by decide +kernel
theorem dX7_fills_122 : decode cX7_fills 122 = .ok (.iload 4, 2) := by decide +kernel
theorem dX7_fills_124 : decode cX7_fills 124 = .ok (.iconst 1, 1) := by decide +kernel
theorem dX7_fills_125 : decode cX7_fills 125 = .ok (.iload 6, 2) := by decide +kernel
theorem dX7_fills_127 : decode cX7_fills 127 = .ok (.ishl, 1) := by decide +kernel
theorem dX7_fills_128 : decode cX7_fills 128 = .ok (.ior, 1) := by decide +kernel
theorem dX7_fills_129 : decode cX7_fills 129 = .ok (.istore 4, 2) := by decide +kernel
theorem dX7_fills_131 : decode cX7_fills 131 = .ok (.aload_n 0, 1) := by decide +kernel
theorem dX7_fills_132 : decode cX7_fills 132 = .ok (.iload 6, 2) := by decide +kernel
theorem dX7_fills_134 : decode cX7_fills 134 = .ok (.iload_n 1, 1) := by decide +kernel
theorem dX7_fills_135 : decode cX7_fills 135 = .ok (.invokevirtual 104, 3) := by decide +kernel
theorem dX7_fills_138 : decode cX7_fills 138 = .ok (.ifCond .eq (-129), 3) := by decide +kernel
theorem dX7_fills_141 : decode cX7_fills 141 = .ok (.aload_n 0, 1) := by decide +kernel
theorem dX7_fills_142 : decode cX7_fills 142 = .ok (.iload 6, 2) := by decide +kernel
theorem dX7_fills_144 : decode cX7_fills 144 = .ok (.iload_n 1, 1) := by decide +kernel
theorem dX7_fills_145 : decode cX7_fills 145 = .ok (.invokevirtual 107, 3) := by decide +kernel
theorem dX7_fills_148 : decode cX7_fills 148 = .ok (.iload 5, 2) := by decide +kernel
theorem dX7_fills_150 : decode cX7_fills 150 = .ok (.iconst 1, 1) := by decide +kernel
theorem dX7_fills_151 : decode cX7_fills 151 = .ok (.iload 6, 2) := by decide +kernel
theorem dX7_fills_153 : decode cX7_fills 153 = .ok (.ishl, 1) := by decide +kernel
theorem dX7_fills_154 : decode cX7_fills 154 = .ok (.ior, 1) := by decide +kernel
theorem dX7_fills_155 : decode cX7_fills 155 = .ok (.istore 5, 2) := by decide +kernel
theorem dX7_fills_157 : decode cX7_fills 157 = .ok (.goto (-148), 3) := by decide +kernel
theorem dX7_fills_160 : decode cX7_fills 160 = .ok (.iload 5, 2) := by decide +kernel
theorem dX7_fills_162 : decode cX7_fills 162 = .ok (.ireturn, 1) := by decide +kernel
theorem dX7_bits_0 : decode cX7_bits 0 = .ok (.iconst 0, 1) := by decide +kernel
theorem dX7_bits_1 : decode cX7_bits 1 = .ok (.istore_n 1, 1) := by decide +kernel
theorem dX7_bits_2 : decode cX7_bits 2 = .ok (.iconst 0, 1) := by decide +kernel
theorem dX7_bits_3 : decode cX7_bits 3 = .ok (.istore_n 2, 1) := by decide +kernel
theorem dX7_bits_4 : decode cX7_bits 4 = .ok (.iload_n 2, 1) := by decide +kernel
theorem dX7_bits_5 : decode cX7_bits 5 = .ok (.bipush 16, 2) := by decide +kernel
theorem dX7_bits_7 : decode cX7_bits 7 = .ok (.if_icmp .ge 17, 3) := by decide +kernel
theorem dX7_bits_10 : decode cX7_bits 10 = .ok (.iload_n 1, 1) := by decide +kernel
theorem dX7_bits_11 : decode cX7_bits 11 = .ok (.iload_n 0, 1) := by decide +kernel
theorem dX7_bits_12 : decode cX7_bits 12 = .ok (.iload_n 2, 1) := by decide +kernel
theorem dX7_bits_13 : decode cX7_bits 13 = .ok (.ishr, 1) := by decide +kernel
theorem dX7_bits_14 : decode cX7_bits 14 = .ok (.iconst 1, 1) := by decide +kernel
theorem dX7_bits_15 : decode cX7_bits 15 = .ok (.iand, 1) := by decide +kernel
theorem dX7_bits_16 : decode cX7_bits 16 = .ok (.iadd, 1) := by decide +kernel
theorem dX7_bits_17 : decode cX7_bits 17 = .ok (.istore_n 1, 1) := by decide +kernel
theorem dX7_bits_18 : decode cX7_bits 18 = .ok (.iinc 2 1, 3) := by decide +kernel
theorem dX7_bits_21 : decode cX7_bits 21 = .ok (.goto (-17), 3) := by decide +kernel
theorem dX7_bits_24 : decode cX7_bits 24 = .ok (.iload_n 1, 1) := by decide +kernel
theorem dX7_bits_25 : decode cX7_bits 25 = .ok (.ireturn, 1) := by decide +kernel
theorem dX7_fill_0 : decode cX7_fill 0 = .ok (.aload_n 0, 1) := by decide +kernel
theorem dX7_fill_1 : decode cX7_fill 1 = .ok (.iload_n 1, 1) := by decide +kernel
theorem dX7_fill_2 : decode cX7_fill 2 = .ok (.invokevirtual 101, 3) := by decide +kernel
theorem dX7_fill_5 : decode cX7_fill 5 = .ok (.ifCond .eq 21, 3) := by decide +kernel
theorem dX7_fill_8 : decode cX7_fill 8 = .ok (.iload_n 2, 1) := by decide +kernel
theorem dX7_fill_9 : decode cX7_fill 9 = .ok (.iconst 1, 1) := by decide +kernel
theorem dX7_fill_10 : decode cX7_fill 10 = .ok (.iconst 4, 1) := by decide +kernel
theorem dX7_fill_11 : decode cX7_fill 11 = .ok (.invokestatic 70, 3) := by decide +kernel
theorem dX7_fill_14 : decode cX7_fill 14 = .ok (.ifCond .eq 12, 3) := by decide +kernel
theorem dX7_fill_17 : decode cX7_fill 17 = .ok (.iload_n 3, 1) := by decide +kernel
theorem dX7_fill_18 : decode cX7_fill 18 = .ok (.iconst 0, 1) := by decide +kernel
theorem dX7_fill_19 : decode cX7_fill 19 = .ok (.iconst 2, 1) := by decide +kernel
theorem dX7_fill_20 : decode cX7_fill 20 = .ok (.invokestatic 70, 3) := by decide +kernel
theorem dX7_fill_23 : decode cX7_fill 23 = .ok (.ifCond .ne 6, 3) := by decide +kernel
theorem dX7_fill_26 : decode cX7_fill 26 = .ok (.ldc 74, 2) := by decide +kernel
theorem dX7_fill_28 : decode cX7_fill 28 = .ok (.ireturn, 1) := by decide +kernel
theorem dX7_fill_29 : decode cX7_fill 29 = .ok (.aload_n 0, 1) := by decide +kernel
theorem dX7_fill_30 : decode cX7_fill 30 = .ok (.iload_n 1, 1) := by decide +kernel
theorem dX7_fill_31 : decode cX7_fill 31 = .ok (.iconst 2, 1) := by decide +kernel
theorem dX7_fill_32 : decode cX7_fill 32 = .ok (.invokevirtual 91, 3) := by decide +kernel
theorem dX7_fill_35 : decode cX7_fill 35 = .ok (.ifCond .le 6, 3) := by decide +kernel
theorem dX7_fill_38 : decode cX7_fill 38 = .ok (.ldc 83, 2) := by decide +kernel
theorem dX7_fill_40 : decode cX7_fill 40 = .ok (.ireturn, 1) := by decide +kernel
theorem dX7_fill_41 : decode cX7_fill 41 = .ok (.aload_n 0, 1) := by decide +kernel
theorem dX7_fill_42 : decode cX7_fill 42 = .ok (.invokevirtual 76, 3) := by decide +kernel
theorem dX7_fill_45 : decode cX7_fill 45 = .ok (.aload_n 0, 1) := by decide +kernel
theorem dX7_fill_46 : decode cX7_fill 46 = .ok (.iload_n 1, 1) := by decide +kernel
theorem dX7_fill_47 : decode cX7_fill 47 = .ok (.iload_n 2, 1) := by decide +kernel
theorem dX7_fill_48 : decode cX7_fill 48 = .ok (.iload_n 3, 1) := by decide +kernel
theorem dX7_fill_49 : decode cX7_fill 49 = .ok (.invokevirtual 114, 3) := by decide +kernel
theorem dX7_fill_52 : decode cX7_fill 52 = .ok (.invokestatic 118, 3) := by decide +kernel
theorem dX7_fill_55 : decode cX7_fill 55 = .ok (.ireturn, 1) := by decide +kernel
theorem dX7_depart_0 : decode cX7_depart 0 = .ok (.aload_n 0, 1) := by decide +kernel
theorem dX7_depart_1 : decode cX7_depart 1 = .ok (.iload_n 1, 1) := by decide +kernel
theorem dX7_depart_2 : decode cX7_depart 2 = .ok (.invokevirtual 101, 3) := by decide +kernel
theorem dX7_depart_5 : decode cX7_depart 5 = .ok (.ifCond .ne 6, 3) := by decide +kernel
theorem dX7_depart_8 : decode cX7_depart 8 = .ok (.ldc 74, 2) := by decide +kernel
theorem dX7_depart_10 : decode cX7_depart 10 = .ok (.ireturn, 1) := by decide +kernel
theorem dX7_depart_11 : decode cX7_depart 11 = .ok (.aload_n 0, 1) := by decide +kernel
theorem dX7_depart_12 : decode cX7_depart 12 = .ok (.iload_n 1, 1) := by decide +kernel
theorem dX7_depart_13 : decode cX7_depart 13 = .ok (.iconst 2, 1) := by decide +kernel
theorem dX7_depart_14 : decode cX7_depart 14 = .ok (.invokevirtual 91, 3) := by decide +kernel
theorem dX7_depart_17 : decode cX7_depart 17 = .ok (.ifCond .gt 11, 3) := by decide +kernel
theorem dX7_depart_20 : decode cX7_depart 20 = .ok (.aload_n 0, 1) := by decide +kernel
theorem dX7_depart_21 : decode cX7_depart 21 = .ok (.iload_n 1, 1) := by decide +kernel
theorem dX7_depart_22 : decode cX7_depart 22 = .ok (.invokevirtual 121, 3) := by decide +kernel
theorem dX7_depart_25 : decode cX7_depart 25 = .ok (.ifCond .ne 6, 3) := by decide +kernel
theorem dX7_depart_28 : decode cX7_depart 28 = .ok (.ldc 83, 2) := by decide +kernel
theorem dX7_depart_30 : decode cX7_depart 30 = .ok (.ireturn, 1) := by decide +kernel
theorem dX7_depart_31 : decode cX7_depart 31 = .ok (.aload_n 0, 1) := by decide +kernel
theorem dX7_depart_32 : decode cX7_depart 32 = .ok (.invokevirtual 76, 3) := by decide +kernel
theorem dX7_depart_35 : decode cX7_depart 35 = .ok (.aload_n 0, 1) := by decide +kernel
theorem dX7_depart_36 : decode cX7_depart 36 = .ok (.iload_n 1, 1) := by decide +kernel
theorem dX7_depart_37 : decode cX7_depart 37 = .ok (.invokevirtual 94, 3) := by decide +kernel
theorem dX7_depart_40 : decode cX7_depart 40 = .ok (.istore_n 2, 1) := by decide +kernel
theorem dX7_depart_41 : decode cX7_depart 41 = .ok (.aload_n 0, 1) := by decide +kernel
theorem dX7_depart_42 : decode cX7_depart 42 = .ok (.iload_n 1, 1) := by decide +kernel
theorem dX7_depart_43 : decode cX7_depart 43 = .ok (.iconst 2, 1) := by decide +kernel
theorem dX7_depart_44 : decode cX7_depart 44 = .ok (.iconst 1, 1) := by decide +kernel
theorem dX7_depart_45 : decode cX7_depart 45 = .ok (.invokevirtual 84, 3) := by decide +kernel
theorem dX7_depart_48 : decode cX7_depart 48 = .ok (.aload_n 0, 1) := by decide +kernel
theorem dX7_depart_49 : decode cX7_depart 49 = .ok (.iload_n 1, 1) := by decide +kernel
theorem dX7_depart_50 : decode cX7_depart 50 = .ok (.iconst 3, 1) := by decide +kernel
theorem dX7_depart_51 : decode cX7_depart 51 = .ok (.iload_n 2, 1) := by decide +kernel
theorem dX7_depart_52 : decode cX7_depart 52 = .ok (.invokevirtual 84, 3) := by decide +kernel
theorem dX7_depart_55 : decode cX7_depart 55 = .ok (.aload_n 0, 1) := by decide +kernel
theorem dX7_depart_56 : decode cX7_depart 56 = .ok (.iload_n 1, 1) := by decide +kernel
theorem dX7_depart_57 : decode cX7_depart 57 = .ok (.iconst 5, 1) := by decide +kernel
theorem dX7_depart_58 : decode cX7_depart 58 = .ok (.iload_n 2, 1) := by decide +kernel
theorem dX7_depart_59 : decode cX7_depart 59 = .ok (.aload_n 0, 1) := by decide +kernel
theorem dX7_depart_60 : decode cX7_depart 60 = .ok (.getfield 7, 3) := by decide +kernel
theorem dX7_depart_63 : decode cX7_depart 63 = .ok (.iconst 0, 1) := by decide +kernel
theorem dX7_depart_64 : decode cX7_depart 64 = .ok (.iaload, 1) := by decide +kernel
theorem dX7_depart_65 : decode cX7_depart 65 = .ok (.imul, 1) := by decide +kernel
theorem dX7_depart_66 : decode cX7_depart 66 = .ok (.invokevirtual 84, 3) := by decide +kernel
theorem dX7_depart_69 : decode cX7_depart 69 = .ok (.aload_n 0, 1) := by decide +kernel
theorem dX7_depart_70 : decode cX7_depart 70 = .ok (.iload_n 1, 1) := by decide +kernel
theorem dX7_depart_71 : decode cX7_depart 71 = .ok (.iconst 4, 1) := by decide +kernel
theorem dX7_depart_72 : decode cX7_depart 72 = .ok (.aload_n 0, 1) := by decide +kernel
theorem dX7_depart_73 : decode cX7_depart 73 = .ok (.getfield 7, 3) := by decide +kernel
theorem dX7_depart_76 : decode cX7_depart 76 = .ok (.iconst 5, 1) := by decide +kernel
theorem dX7_depart_77 : decode cX7_depart 77 = .ok (.iaload, 1) := by decide +kernel
theorem dX7_depart_78 : decode cX7_depart 78 = .ok (.iload_n 2, 1) := by decide +kernel
theorem dX7_depart_79 : decode cX7_depart 79 = .ok (.aload_n 0, 1) := by decide +kernel
theorem dX7_depart_80 : decode cX7_depart 80 = .ok (.getfield 7, 3) := by decide +kernel
theorem dX7_depart_83 : decode cX7_depart 83 = .ok (.iconst 0, 1) := by decide +kernel
theorem dX7_depart_84 : decode cX7_depart 84 = .ok (.iaload, 1) := by decide +kernel
theorem dX7_depart_85 : decode cX7_depart 85 = .ok (.imul, 1) := by decide +kernel
theorem dX7_depart_86 : decode cX7_depart 86 = .ok (.iadd, 1) := by decide +kernel
theorem dX7_depart_87 : decode cX7_depart 87 = .ok (.invokevirtual 84, 3) := by decide +kernel
theorem dX7_depart_90 : decode cX7_depart 90 = .ok (.iconst 0, 1) := by decide +kernel
theorem dX7_depart_91 : decode cX7_depart 91 = .ok (.istore_n 3, 1) := by decide +kernel
theorem dX7_depart_92 : decode cX7_depart 92 = .ok (.iload_n 3, 1) := by decide +kernel
theorem dX7_depart_93 : decode cX7_depart 93 = .ok (.aload_n 0, 1) := by decide +kernel
theorem dX7_depart_94 : decode cX7_depart 94 = .ok (.getfield 7, 3) := by decide +kernel
theorem dX7_depart_97 : decode cX7_depart 97 = .ok (.iconst 3, 1) := by decide +kernel
theorem dX7_depart_98 : decode cX7_depart 98 = .ok (.iaload, 1) := by decide +kernel
theorem dX7_depart_99 : decode cX7_depart 99 = .ok (.if_icmp .ge 39, 3) := by decide +kernel
theorem dX7_depart_102 : decode cX7_depart 102 = .ok (.aload_n 0, 1) := by decide +kernel
theorem dX7_depart_103 : decode cX7_depart 103 = .ok (.iload_n 3, 1) := by decide +kernel
theorem dX7_depart_104 : decode cX7_depart 104 = .ok (.iload_n 1, 1) := by decide +kernel
theorem dX7_depart_105 : decode cX7_depart 105 = .ok (.invokevirtual 87, 3) := by decide +kernel
theorem dX7_depart_108 : decode cX7_depart 108 = .ok (.ifCond .eq 24, 3) := by decide +kernel
theorem dX7_depart_111 : decode cX7_depart 111 = .ok (.aload_n 0, 1) := by decide +kernel
theorem dX7_depart_112 : decode cX7_depart 112 = .ok (.iload_n 3, 1) := by decide +kernel
theorem dX7_depart_113 : decode cX7_depart 113 = .ok (.bipush 6, 2) := by decide +kernel
theorem dX7_depart_115 : decode cX7_depart 115 = .ok (.iconst 2, 1) := by decide +kernel
theorem dX7_depart_116 : decode cX7_depart 116 = .ok (.invokevirtual 65, 3) := by decide +kernel
theorem dX7_depart_119 : decode cX7_depart 119 = .ok (.aload_n 0, 1) := by decide +kernel
theorem dX7_depart_120 : decode cX7_depart 120 = .ok (.iload_n 3, 1) := by decide +kernel
theorem dX7_depart_121 : decode cX7_depart 121 = .ok (.bipush 11, 2) := by decide +kernel
theorem dX7_depart_123 : decode cX7_depart 123 = .ok (.aload_n 0, 1) := by decide +kernel
theorem dX7_depart_124 : decode cX7_depart 124 = .ok (.getfield 7, 3) := by decide +kernel
theorem dX7_depart_127 : decode cX7_depart 127 = .ok (.iconst 5, 1) := by decide +kernel
theorem dX7_depart_128 : decode cX7_depart 128 = .ok (.iaload, 1) := by decide +kernel
theorem dX7_depart_129 : decode cX7_depart 129 = .ok (.invokevirtual 65, 3) := by decide +kernel
theorem dX7_depart_132 : decode cX7_depart 132 = .ok (.iinc 3 1, 3) := by decide +kernel
theorem dX7_depart_135 : decode cX7_depart 135 = .ok (.goto (-43), 3) := by decide +kernel
theorem dX7_depart_138 : decode cX7_depart 138 = .ok (.aload_n 0, 1) := by decide +kernel
theorem dX7_depart_139 : decode cX7_depart 139 = .ok (.iload_n 1, 1) := by decide +kernel
theorem dX7_depart_140 : decode cX7_depart 140 = .ok (.iconst 4, 1) := by decide +kernel
theorem dX7_depart_141 : decode cX7_depart 141 = .ok (.invokevirtual 91, 3) := by decide +kernel
theorem dX7_depart_144 : decode cX7_depart 144 = .ok (.ireturn, 1) := by decide +kernel
theorem dX7_offer_0 : decode cX7_offer 0 = .ok (.iload_n 1, 1) := by decide +kernel
theorem dX7_offer_1 : decode cX7_offer 1 = .ok (.iconst 1, 1) := by decide +kernel
theorem dX7_offer_2 : decode cX7_offer 2 = .ok (.iconst 4, 1) := by decide +kernel
theorem dX7_offer_3 : decode cX7_offer 3 = .ok (.invokestatic 70, 3) := by decide +kernel
theorem dX7_offer_6 : decode cX7_offer 6 = .ok (.ifCond .eq 46, 3) := by decide +kernel
theorem dX7_offer_9 : decode cX7_offer 9 = .ok (.iload_n 2, 1) := by decide +kernel
theorem dX7_offer_10 : decode cX7_offer 10 = .ok (.iconst 1, 1) := by decide +kernel
theorem dX7_offer_11 : decode cX7_offer 11 = .ok (.bipush 99, 2) := by decide +kernel
theorem dX7_offer_13 : decode cX7_offer 13 = .ok (.invokestatic 70, 3) := by decide +kernel
theorem dX7_offer_16 : decode cX7_offer 16 = .ok (.ifCond .eq 36, 3) := by decide +kernel
theorem dX7_offer_19 : decode cX7_offer 19 = .ok (.iload_n 3, 1) := by decide +kernel
theorem dX7_offer_20 : decode cX7_offer 20 = .ok (.iconst 1, 1) := by decide +kernel
theorem dX7_offer_21 : decode cX7_offer 21 = .ok (.bipush 99, 2) := by decide +kernel
theorem dX7_offer_23 : decode cX7_offer 23 = .ok (.invokestatic 70, 3) := by decide +kernel
theorem dX7_offer_26 : decode cX7_offer 26 = .ok (.ifCond .eq 26, 3) := by decide +kernel
theorem dX7_offer_29 : decode cX7_offer 29 = .ok (.iload 4, 2) := by decide +kernel
theorem dX7_offer_31 : decode cX7_offer 31 = .ok (.iconst 0, 1) := by decide +kernel
theorem dX7_offer_32 : decode cX7_offer 32 = .ok (.sipush 999, 3) := by decide +kernel
theorem dX7_offer_35 : decode cX7_offer 35 = .ok (.invokestatic 70, 3) := by decide +kernel
theorem dX7_offer_38 : decode cX7_offer 38 = .ok (.ifCond .eq 14, 3) := by decide +kernel
theorem dX7_offer_41 : decode cX7_offer 41 = .ok (.iload 5, 2) := by decide +kernel
theorem dX7_offer_43 : decode cX7_offer 43 = .ok (.iconst 0, 1) := by decide +kernel
theorem dX7_offer_44 : decode cX7_offer 44 = .ok (.bipush 99, 2) := by decide +kernel
theorem dX7_offer_46 : decode cX7_offer 46 = .ok (.invokestatic 70, 3) := by decide +kernel
theorem dX7_offer_49 : decode cX7_offer 49 = .ok (.ifCond .ne 6, 3) := by decide +kernel
theorem dX7_offer_52 : decode cX7_offer 52 = .ok (.ldc 74, 2) := by decide +kernel
theorem dX7_offer_54 : decode cX7_offer 54 = .ok (.ireturn, 1) := by decide +kernel
theorem dX7_offer_55 : decode cX7_offer 55 = .ok (.aload_n 0, 1) := by decide +kernel
theorem dX7_offer_56 : decode cX7_offer 56 = .ok (.getfield 7, 3) := by decide +kernel
theorem dX7_offer_59 : decode cX7_offer 59 = .ok (.bipush 6, 2) := by decide +kernel
theorem dX7_offer_61 : decode cX7_offer 61 = .ok (.iaload, 1) := by decide +kernel
theorem dX7_offer_62 : decode cX7_offer 62 = .ok (.bipush 10, 2) := by decide +kernel
theorem dX7_offer_64 : decode cX7_offer 64 = .ok (.if_icmp .ne 6, 3) := by decide +kernel
theorem dX7_offer_67 : decode cX7_offer 67 = .ok (.ldc 75, 2) := by decide +kernel
theorem dX7_offer_69 : decode cX7_offer 69 = .ok (.ireturn, 1) := by decide +kernel
theorem dX7_offer_70 : decode cX7_offer 70 = .ok (.aload_n 0, 1) := by decide +kernel
theorem dX7_offer_71 : decode cX7_offer 71 = .ok (.invokevirtual 76, 3) := by decide +kernel
theorem dX7_offer_74 : decode cX7_offer 74 = .ok (.sipush 237, 3) := by decide +kernel
theorem dX7_offer_77 : decode cX7_offer 77 = .ok (.iconst 5, 1) := by decide +kernel
theorem dX7_offer_78 : decode cX7_offer 78 = .ok (.aload_n 0, 1) := by decide +kernel
theorem dX7_offer_79 : decode cX7_offer 79 = .ok (.getfield 7, 3) := by decide +kernel
theorem dX7_offer_82 : decode cX7_offer 82 = .ok (.bipush 6, 2) := by decide +kernel
theorem dX7_offer_84 : decode cX7_offer 84 = .ok (.iaload, 1) := by decide +kernel
theorem dX7_offer_85 : decode cX7_offer 85 = .ok (.imul, 1) := by decide +kernel
theorem dX7_offer_86 : decode cX7_offer 86 = .ok (.iadd, 1) := by decide +kernel
theorem dX7_offer_87 : decode cX7_offer 87 = .ok (.istore 6, 2) := by decide +kernel
theorem dX7_offer_89 : decode cX7_offer 89 = .ok (.aload_n 0, 1) := by decide +kernel
theorem dX7_offer_90 : decode cX7_offer 90 = .ok (.getfield 7, 3) := by decide +kernel
theorem dX7_offer_93 : decode cX7_offer 93 = .ok (.iload 6, 2) := by decide +kernel
theorem dX7_offer_95 : decode cX7_offer 95 = .ok (.iload_n 1, 1) := by decide +kernel
theorem dX7_offer_96 : decode cX7_offer 96 = .ok (.iastore, 1) := by decide +kernel
theorem dX7_offer_97 : decode cX7_offer 97 = .ok (.aload_n 0, 1) := by decide +kernel
theorem dX7_offer_98 : decode cX7_offer 98 = .ok (.getfield 7, 3) := by decide +kernel
theorem dX7_offer_101 : decode cX7_offer 101 = .ok (.iload 6, 2) := by decide +kernel
theorem dX7_offer_103 : decode cX7_offer 103 = .ok (.iconst 1, 1) := by decide +kernel
theorem dX7_offer_104 : decode cX7_offer 104 = .ok (.iadd, 1) := by decide +kernel
theorem dX7_offer_105 : decode cX7_offer 105 = .ok (.iload_n 2, 1) := by decide +kernel
theorem dX7_offer_106 : decode cX7_offer 106 = .ok (.iastore, 1) := by decide +kernel
theorem dX7_offer_107 : decode cX7_offer 107 = .ok (.aload_n 0, 1) := by decide +kernel
theorem dX7_offer_108 : decode cX7_offer 108 = .ok (.getfield 7, 3) := by decide +kernel
theorem dX7_offer_111 : decode cX7_offer 111 = .ok (.iload 6, 2) := by decide +kernel
theorem dX7_offer_113 : decode cX7_offer 113 = .ok (.iconst 2, 1) := by decide +kernel
theorem dX7_offer_114 : decode cX7_offer 114 = .ok (.iadd, 1) := by decide +kernel
theorem dX7_offer_115 : decode cX7_offer 115 = .ok (.iload_n 3, 1) := by decide +kernel
theorem dX7_offer_116 : decode cX7_offer 116 = .ok (.iastore, 1) := by decide +kernel
theorem dX7_offer_117 : decode cX7_offer 117 = .ok (.aload_n 0, 1) := by decide +kernel
theorem dX7_offer_118 : decode cX7_offer 118 = .ok (.getfield 7, 3) := by decide +kernel
theorem dX7_offer_121 : decode cX7_offer 121 = .ok (.iload 6, 2) := by decide +kernel
theorem dX7_offer_123 : decode cX7_offer 123 = .ok (.iconst 3, 1) := by decide +kernel
theorem dX7_offer_124 : decode cX7_offer 124 = .ok (.iadd, 1) := by decide +kernel
theorem dX7_offer_125 : decode cX7_offer 125 = .ok (.iload 4, 2) := by decide +kernel
theorem dX7_offer_127 : decode cX7_offer 127 = .ok (.iastore, 1) := by decide +kernel
theorem dX7_offer_128 : decode cX7_offer 128 = .ok (.aload_n 0, 1) := by decide +kernel
theorem dX7_offer_129 : decode cX7_offer 129 = .ok (.getfield 7, 3) := by decide +kernel
theorem dX7_offer_132 : decode cX7_offer 132 = .ok (.iload 6, 2) := by decide +kernel
theorem dX7_offer_134 : decode cX7_offer 134 = .ok (.iconst 4, 1) := by decide +kernel
theorem dX7_offer_135 : decode cX7_offer 135 = .ok (.iadd, 1) := by decide +kernel
theorem dX7_offer_136 : decode cX7_offer 136 = .ok (.aload_n 0, 1) := by decide +kernel
theorem dX7_offer_137 : decode cX7_offer 137 = .ok (.getfield 7, 3) := by decide +kernel
theorem dX7_offer_140 : decode cX7_offer 140 = .ok (.iconst 5, 1) := by decide +kernel
theorem dX7_offer_141 : decode cX7_offer 141 = .ok (.iaload, 1) := by decide +kernel
theorem dX7_offer_142 : decode cX7_offer 142 = .ok (.iload 5, 2) := by decide +kernel
theorem dX7_offer_144 : decode cX7_offer 144 = .ok (.iadd, 1) := by decide +kernel
theorem dX7_offer_145 : decode cX7_offer 145 = .ok (.iastore, 1) := by decide +kernel
theorem dX7_offer_146 : decode cX7_offer 146 = .ok (.aload_n 0, 1) := by decide +kernel
theorem dX7_offer_147 : decode cX7_offer 147 = .ok (.getfield 7, 3) := by decide +kernel
theorem dX7_offer_150 : decode cX7_offer 150 = .ok (.bipush 6, 2) := by decide +kernel
theorem dX7_offer_152 : decode cX7_offer 152 = .ok (.dup2, 1) := by decide +kernel
theorem dX7_offer_153 : decode cX7_offer 153 = .ok (.iaload, 1) := by decide +kernel
theorem dX7_offer_154 : decode cX7_offer 154 = .ok (.iconst 1, 1) := by decide +kernel
theorem dX7_offer_155 : decode cX7_offer 155 = .ok (.iadd, 1) := by decide +kernel
theorem dX7_offer_156 : decode cX7_offer 156 = .ok (.iastore, 1) := by decide +kernel
theorem dX7_offer_157 : decode cX7_offer 157 = .ok (.aload_n 0, 1) := by decide +kernel
theorem dX7_offer_158 : decode cX7_offer 158 = .ok (.getfield 7, 3) := by decide +kernel
theorem dX7_offer_161 : decode cX7_offer 161 = .ok (.bipush 6, 2) := by decide +kernel
theorem dX7_offer_163 : decode cX7_offer 163 = .ok (.iaload, 1) := by decide +kernel
theorem dX7_offer_164 : decode cX7_offer 164 = .ok (.ireturn, 1) := by decide +kernel
theorem dX7_dropsOffer_0 : decode cX7_dropsOffer 0 = .ok (.aload_n 0, 1) := by decide +kernel
theorem dX7_dropsOffer_1 : decode cX7_dropsOffer 1 = .ok (.getfield 7, 3) := by decide +kernel
theorem dX7_dropsOffer_4 : decode cX7_dropsOffer 4 = .ok (.bipush 6, 2) := by decide +kernel
theorem dX7_dropsOffer_6 : decode cX7_dropsOffer 6 = .ok (.dup2, 1) := by decide +kernel
theorem dX7_dropsOffer_7 : decode cX7_dropsOffer 7 = .ok (.iaload, 1) := by decide +kernel
theorem dX7_dropsOffer_8 : decode cX7_dropsOffer 8 = .ok (.iconst 1, 1) := by decide +kernel
theorem dX7_dropsOffer_9 : decode cX7_dropsOffer 9 = .ok (.isub, 1) := by decide +kernel
theorem dX7_dropsOffer_10 : decode cX7_dropsOffer 10 = .ok (.iastore, 1) := by decide +kernel
theorem dX7_dropsOffer_11 : decode cX7_dropsOffer 11 = .ok (.sipush 237, 3) := by decide +kernel
theorem dX7_dropsOffer_14 : decode cX7_dropsOffer 14 = .ok (.iconst 5, 1) := by decide +kernel
theorem dX7_dropsOffer_15 : decode cX7_dropsOffer 15 = .ok (.iload_n 1, 1) := by decide +kernel
theorem dX7_dropsOffer_16 : decode cX7_dropsOffer 16 = .ok (.imul, 1) := by decide +kernel
theorem dX7_dropsOffer_17 : decode cX7_dropsOffer 17 = .ok (.iadd, 1) := by decide +kernel
theorem dX7_dropsOffer_18 : decode cX7_dropsOffer 18 = .ok (.istore_n 2, 1) := by decide +kernel
theorem dX7_dropsOffer_19 : decode cX7_dropsOffer 19 = .ok (.iload_n 2, 1) := by decide +kernel
theorem dX7_dropsOffer_20 : decode cX7_dropsOffer 20 = .ok (.sipush 237, 3) := by decide +kernel
theorem dX7_dropsOffer_23 : decode cX7_dropsOffer 23 = .ok (.iconst 5, 1) := by decide +kernel
theorem dX7_dropsOffer_24 : decode cX7_dropsOffer 24 = .ok (.aload_n 0, 1) := by decide +kernel
theorem dX7_dropsOffer_25 : decode cX7_dropsOffer 25 = .ok (.getfield 7, 3) := by decide +kernel
theorem dX7_dropsOffer_28 : decode cX7_dropsOffer 28 = .ok (.bipush 6, 2) := by decide +kernel
theorem dX7_dropsOffer_30 : decode cX7_dropsOffer 30 = .ok (.iaload, 1) := by decide +kernel
theorem dX7_dropsOffer_31 : decode cX7_dropsOffer 31 = .ok (.imul, 1) := by decide +kernel
theorem dX7_dropsOffer_32 : decode cX7_dropsOffer 32 = .ok (.iadd, 1) := by decide +kernel
theorem dX7_dropsOffer_33 : decode cX7_dropsOffer 33 = .ok (.if_icmp .ge 23, 3) := by decide +kernel
theorem dX7_dropsOffer_36 : decode cX7_dropsOffer 36 = .ok (.aload_n 0, 1) := by decide +kernel
theorem dX7_dropsOffer_37 : decode cX7_dropsOffer 37 = .ok (.getfield 7, 3) := by decide +kernel
theorem dX7_dropsOffer_40 : decode cX7_dropsOffer 40 = .ok (.iload_n 2, 1) := by decide +kernel
theorem dX7_dropsOffer_41 : decode cX7_dropsOffer 41 = .ok (.aload_n 0, 1) := by decide +kernel
theorem dX7_dropsOffer_42 : decode cX7_dropsOffer 42 = .ok (.getfield 7, 3) := by decide +kernel
theorem dX7_dropsOffer_45 : decode cX7_dropsOffer 45 = .ok (.iload_n 2, 1) := by decide +kernel
theorem dX7_dropsOffer_46 : decode cX7_dropsOffer 46 = .ok (.iconst 5, 1) := by decide +kernel
theorem dX7_dropsOffer_47 : decode cX7_dropsOffer 47 = .ok (.iadd, 1) := by decide +kernel
theorem dX7_dropsOffer_48 : decode cX7_dropsOffer 48 = .ok (.iaload, 1) := by decide +kernel
theorem dX7_dropsOffer_49 : decode cX7_dropsOffer 49 = .ok (.iastore, 1) := by decide +kernel
theorem dX7_dropsOffer_50 : decode cX7_dropsOffer 50 = .ok (.iinc 2 1, 3) := by decide +kernel
theorem dX7_dropsOffer_53 : decode cX7_dropsOffer 53 = .ok (.goto (-34), 3) := by decide +kernel
theorem dX7_dropsOffer_56 : decode cX7_dropsOffer 56 = .ok (.return_, 1) := by decide +kernel
theorem dX7_takes_0 : decode cX7_takes 0 = .ok (.aload_n 0, 1) := by decide +kernel
theorem dX7_takes_1 : decode cX7_takes 1 = .ok (.iload_n 1, 1) := by decide +kernel
theorem dX7_takes_2 : decode cX7_takes 2 = .ok (.iconst 0, 1) := by decide +kernel
theorem dX7_takes_3 : decode cX7_takes 3 = .ok (.invokevirtual 91, 3) := by decide +kernel
theorem dX7_takes_6 : decode cX7_takes 6 = .ok (.istore 4, 2) := by decide +kernel
theorem dX7_takes_8 : decode cX7_takes 8 = .ok (.aload_n 0, 1) := by decide +kernel
theorem dX7_takes_9 : decode cX7_takes 9 = .ok (.iload_n 1, 1) := by decide +kernel
theorem dX7_takes_10 : decode cX7_takes 10 = .ok (.iconst 1, 1) := by decide +kernel
theorem dX7_takes_11 : decode cX7_takes 11 = .ok (.invokevirtual 91, 3) := by decide +kernel
theorem dX7_takes_14 : decode cX7_takes 14 = .ok (.istore 5, 2) := by decide +kernel
theorem dX7_takes_16 : decode cX7_takes 16 = .ok (.iconst 0, 1) := by decide +kernel
theorem dX7_takes_17 : decode cX7_takes 17 = .ok (.istore 6, 2) := by decide +kernel
theorem dX7_takes_19 : decode cX7_takes 19 = .ok (.iconst 0, 1) := by decide +kernel
theorem dX7_takes_20 : decode cX7_takes 20 = .ok (.istore 7, 2) := by decide +kernel
theorem dX7_takes_22 : decode cX7_takes 22 = .ok (.iload 7, 2) := by decide +kernel
theorem dX7_takes_24 : decode cX7_takes 24 = .ok (.ifCond .lt 167, 3) := by decide +kernel
theorem dX7_takes_27 : decode cX7_takes 27 = .ok (.ldc 69, 2) := by decide +kernel
theorem dX7_takes_29 : decode cX7_takes 29 = .ok (.istore 7, 2) := by decide +kernel
theorem dX7_takes_31 : decode cX7_takes 31 = .ok (.iconst 0, 1) := by decide +kernel
theorem dX7_takes_32 : decode cX7_takes 32 = .ok (.istore 8, 2) := by decide +kernel
theorem dX7_takes_34 : decode cX7_takes 34 = .ok (.iload 8, 2) := by decide +kernel
theorem dX7_takes_36 : decode cX7_takes 36 = .ok (.aload_n 0, 1) := by decide +kernel
theorem dX7_takes_37 : decode cX7_takes 37 = .ok (.getfield 7, 3) := by decide +kernel
theorem dX7_takes_40 : decode cX7_takes 40 = .ok (.bipush 6, 2) := by decide +kernel
theorem dX7_takes_42 : decode cX7_takes 42 = .ok (.iaload, 1) := by decide +kernel
theorem dX7_takes_43 : decode cX7_takes 43 = .ok (.if_icmp .ge 98, 3) := by decide +kernel
theorem dX7_takes_46 : decode cX7_takes 46 = .ok (.aload_n 0, 1) := by decide +kernel
theorem dX7_takes_47 : decode cX7_takes 47 = .ok (.iload 8, 2) := by decide +kernel
theorem dX7_takes_49 : decode cX7_takes 49 = .ok (.iconst 0, 1) := by decide +kernel
theorem dX7_takes_50 : decode cX7_takes 50 = .ok (.invokevirtual 124, 3) := by decide +kernel
theorem dX7_takes_53 : decode cX7_takes 53 = .ok (.iload_n 2, 1) := by decide +kernel
theorem dX7_takes_54 : decode cX7_takes 54 = .ok (.if_icmp .ne 42, 3) := by decide +kernel
theorem dX7_takes_57 : decode cX7_takes 57 = .ok (.aload_n 0, 1) := by decide +kernel
theorem dX7_takes_58 : decode cX7_takes 58 = .ok (.iload 8, 2) := by decide +kernel
theorem dX7_takes_60 : decode cX7_takes 60 = .ok (.iconst 4, 1) := by decide +kernel
theorem dX7_takes_61 : decode cX7_takes 61 = .ok (.invokevirtual 124, 3) := by decide +kernel
theorem dX7_takes_64 : decode cX7_takes 64 = .ok (.iload_n 3, 1) := by decide +kernel
theorem dX7_takes_65 : decode cX7_takes 65 = .ok (.if_icmp .lt 31, 3) := by decide +kernel
theorem dX7_takes_68 : decode cX7_takes 68 = .ok (.aload_n 0, 1) := by decide +kernel
theorem dX7_takes_69 : decode cX7_takes 69 = .ok (.iload 8, 2) := by decide +kernel
theorem dX7_takes_71 : decode cX7_takes 71 = .ok (.iconst 1, 1) := by decide +kernel
theorem dX7_takes_72 : decode cX7_takes 72 = .ok (.invokevirtual 124, 3) := by decide +kernel
theorem dX7_takes_75 : decode cX7_takes 75 = .ok (.iload 4, 2) := by decide +kernel
theorem dX7_takes_77 : decode cX7_takes 77 = .ok (.if_icmp .gt 19, 3) := by decide +kernel
theorem dX7_takes_80 : decode cX7_takes 80 = .ok (.aload_n 0, 1) := by decide +kernel
theorem dX7_takes_81 : decode cX7_takes 81 = .ok (.iload 8, 2) := by decide +kernel
theorem dX7_takes_83 : decode cX7_takes 83 = .ok (.iconst 2, 1) := by decide +kernel
theorem dX7_takes_84 : decode cX7_takes 84 = .ok (.invokevirtual 124, 3) := by decide +kernel
theorem dX7_takes_87 : decode cX7_takes 87 = .ok (.iload 5, 2) := by decide +kernel
theorem dX7_takes_89 : decode cX7_takes 89 = .ok (.if_icmp .gt 7, 3) := by decide +kernel
theorem dX7_takes_92 : decode cX7_takes 92 = .ok (.iconst 1, 1) := by decide +kernel
theorem dX7_takes_93 : decode cX7_takes 93 = .ok (.goto 4, 3) := by decide +kernel
theorem dX7_takes_96 : decode cX7_takes 96 = .ok (.iconst 0, 1) := by decide +kernel
theorem dX7_takes_97 : decode cX7_takes 97 = .ok (.istore 9, 2) := by decide +kernel
theorem dX7_takes_99 : decode cX7_takes 99 = .ok (.iload 9, 2) := by decide +kernel
theorem dX7_takes_101 : decode cX7_takes 101 = .ok (.ifCond .eq 30, 3) := by decide +kernel
theorem dX7_takes_104 : decode cX7_takes 104 = .ok (.iload 7, 2) := by decide +kernel
theorem dX7_takes_106 : decode cX7_takes 106 = .ok (.ifCond .lt 20, 3) := by decide +kernel
theorem dX7_takes_109 : decode cX7_takes 109 = .ok (.aload_n 0, 1) := by decide +kernel
theorem dX7_takes_110 : decode cX7_takes 110 = .ok (.iload 8, 2) := by decide +kernel
theorem dX7_takes_112 : decode cX7_takes 112 = .ok (.iconst 3, 1) := by decide +kernel
theorem dX7_takes_113 : decode cX7_takes 113 = .ok (.invokevirtual 124, 3) := by decide +kernel
theorem dX7_takes_116 : decode cX7_takes 116 = .ok (.aload_n 0, 1) := by decide +kernel
theorem dX7_takes_117 : decode cX7_takes 117 = .ok (.iload 7, 2) := by decide +kernel
theorem dX7_takes_119 : decode cX7_takes 119 = .ok (.iconst 3, 1) := by decide +kernel
theorem dX7_takes_120 : decode cX7_takes 120 = .ok (.invokevirtual 124, 3) := by decide +kernel
theorem dX7_takes_123 : decode cX7_takes 123 = .ok (.if_icmp .le 8, 3) := by decide +kernel
theorem dX7_takes_126 : decode cX7_takes 126 = .ok (.iload 8, 2) := by decide +kernel
theorem dX7_takes_128 : decode cX7_takes 128 = .ok (.goto 5, 3) := by decide +kernel
theorem dX7_takes_131 : decode cX7_takes 131 = .ok (.iload 7, 2) := by decide +kernel
theorem dX7_takes_133 : decode cX7_takes 133 = .ok (.istore 7, 2) := by decide +kernel
theorem dX7_takes_135 : decode cX7_takes 135 = .ok (.iinc 8 1, 3) := by decide +kernel
theorem dX7_takes_138 : decode cX7_takes 138 = .ok (.goto (-104), 3) := by decide +kernel
theorem dX7_takes_141 : decode cX7_takes 141 = .ok (.iload 7, 2) := by decide +kernel
theorem dX7_takes_143 : decode cX7_takes 143 = .ok (.ifCond .lt (-121), 3) := by decide +kernel
theorem dX7_takes_146 : decode cX7_takes 146 = .ok (.iload 4, 2) := by decide +kernel
theorem dX7_takes_148 : decode cX7_takes 148 = .ok (.aload_n 0, 1) := by decide +kernel
theorem dX7_takes_149 : decode cX7_takes 149 = .ok (.iload 7, 2) := by decide +kernel
theorem dX7_takes_151 : decode cX7_takes 151 = .ok (.iconst 1, 1) := by decide +kernel
theorem dX7_takes_152 : decode cX7_takes 152 = .ok (.invokevirtual 124, 3) := by decide +kernel
theorem dX7_takes_155 : decode cX7_takes 155 = .ok (.isub, 1) := by decide +kernel
theorem dX7_takes_156 : decode cX7_takes 156 = .ok (.istore 4, 2) := by decide +kernel
theorem dX7_takes_158 : decode cX7_takes 158 = .ok (.iload 5, 2) := by decide +kernel
theorem dX7_takes_160 : decode cX7_takes 160 = .ok (.aload_n 0, 1) := by decide +kernel
theorem dX7_takes_161 : decode cX7_takes 161 = .ok (.iload 7, 2) := by decide +kernel
theorem dX7_takes_163 : decode cX7_takes 163 = .ok (.iconst 2, 1) := by decide +kernel
theorem dX7_takes_164 : decode cX7_takes 164 = .ok (.invokevirtual 124, 3) := by decide +kernel
theorem dX7_takes_167 : decode cX7_takes 167 = .ok (.isub, 1) := by decide +kernel
theorem dX7_takes_168 : decode cX7_takes 168 = .ok (.istore 5, 2) := by decide +kernel
theorem dX7_takes_170 : decode cX7_takes 170 = .ok (.iload 6, 2) := by decide +kernel
theorem dX7_takes_172 : decode cX7_takes 172 = .ok (.aload_n 0, 1) := by decide +kernel
theorem dX7_takes_173 : decode cX7_takes 173 = .ok (.iload 7, 2) := by decide +kernel
theorem dX7_takes_175 : decode cX7_takes 175 = .ok (.iconst 3, 1) := by decide +kernel
theorem dX7_takes_176 : decode cX7_takes 176 = .ok (.invokevirtual 124, 3) := by decide +kernel
theorem dX7_takes_179 : decode cX7_takes 179 = .ok (.iadd, 1) := by decide +kernel
theorem dX7_takes_180 : decode cX7_takes 180 = .ok (.istore 6, 2) := by decide +kernel
theorem dX7_takes_182 : decode cX7_takes 182 = .ok (.aload_n 0, 1) := by decide +kernel
theorem dX7_takes_183 : decode cX7_takes 183 = .ok (.iload 7, 2) := by decide +kernel
theorem dX7_takes_185 : decode cX7_takes 185 = .ok (.invokevirtual 127, 3) := by decide +kernel
theorem dX7_takes_188 : decode cX7_takes 188 = .ok (.goto (-166), 3) := by decide +kernel
theorem dX7_takes_191 : decode cX7_takes 191 = .ok (.iload 6, 2) := by decide +kernel
theorem dX7_takes_193 : decode cX7_takes 193 = .ok (.ireturn, 1) := by decide +kernel
theorem dX7_arrives_0 : decode cX7_arrives 0 = .ok (.iconst 0, 1) := by decide +kernel
theorem dX7_arrives_1 : decode cX7_arrives 1 = .ok (.istore_n 2, 1) := by decide +kernel
theorem dX7_arrives_2 : decode cX7_arrives 2 = .ok (.iconst 0, 1) := by decide +kernel
theorem dX7_arrives_3 : decode cX7_arrives 3 = .ok (.istore_n 3, 1) := by decide +kernel
theorem dX7_arrives_4 : decode cX7_arrives 4 = .ok (.iload_n 3, 1) := by decide +kernel
theorem dX7_arrives_5 : decode cX7_arrives 5 = .ok (.aload_n 0, 1) := by decide +kernel
theorem dX7_arrives_6 : decode cX7_arrives 6 = .ok (.getfield 7, 3) := by decide +kernel
theorem dX7_arrives_9 : decode cX7_arrives 9 = .ok (.iconst 3, 1) := by decide +kernel
theorem dX7_arrives_10 : decode cX7_arrives 10 = .ok (.iaload, 1) := by decide +kernel
theorem dX7_arrives_11 : decode cX7_arrives 11 = .ok (.if_icmp .ge 172, 3) := by decide +kernel
theorem dX7_arrives_14 : decode cX7_arrives 14 = .ok (.aload_n 0, 1) := by decide +kernel
theorem dX7_arrives_15 : decode cX7_arrives 15 = .ok (.iload_n 3, 1) := by decide +kernel
theorem dX7_arrives_16 : decode cX7_arrives 16 = .ok (.iload_n 1, 1) := by decide +kernel
theorem dX7_arrives_17 : decode cX7_arrives 17 = .ok (.invokevirtual 87, 3) := by decide +kernel
theorem dX7_arrives_20 : decode cX7_arrives 20 = .ok (.ifCond .eq 157, 3) := by decide +kernel
theorem dX7_arrives_23 : decode cX7_arrives 23 = .ok (.aload_n 0, 1) := by decide +kernel
theorem dX7_arrives_24 : decode cX7_arrives 24 = .ok (.getfield 7, 3) := by decide +kernel
theorem dX7_arrives_27 : decode cX7_arrives 27 = .ok (.iconst 5, 1) := by decide +kernel
theorem dX7_arrives_28 : decode cX7_arrives 28 = .ok (.iaload, 1) := by decide +kernel
theorem dX7_arrives_29 : decode cX7_arrives 29 = .ok (.aload_n 0, 1) := by decide +kernel
theorem dX7_arrives_30 : decode cX7_arrives 30 = .ok (.iload_n 3, 1) := by decide +kernel
theorem dX7_arrives_31 : decode cX7_arrives 31 = .ok (.iconst 4, 1) := by decide +kernel
theorem dX7_arrives_32 : decode cX7_arrives 32 = .ok (.invokevirtual 57, 3) := by decide +kernel
theorem dX7_arrives_35 : decode cX7_arrives 35 = .ok (.if_icmp .le 7, 3) := by decide +kernel
theorem dX7_arrives_38 : decode cX7_arrives 38 = .ok (.iconst 1, 1) := by decide +kernel
theorem dX7_arrives_39 : decode cX7_arrives 39 = .ok (.goto 4, 3) := by decide +kernel
theorem dX7_arrives_42 : decode cX7_arrives 42 = .ok (.iconst 0, 1) := by decide +kernel
theorem dX7_arrives_43 : decode cX7_arrives 43 = .ok (.istore 4, 2) := by decide +kernel
theorem dX7_arrives_45 : decode cX7_arrives 45 = .ok (.aload_n 0, 1) := by decide +kernel
theorem dX7_arrives_46 : decode cX7_arrives 46 = .ok (.iload_n 3, 1) := by decide +kernel
theorem dX7_arrives_47 : decode cX7_arrives 47 = .ok (.iconst 3, 1) := by decide +kernel
theorem dX7_arrives_48 : decode cX7_arrives 48 = .ok (.invokevirtual 57, 3) := by decide +kernel
theorem dX7_arrives_51 : decode cX7_arrives 51 = .ok (.aload_n 0, 1) := by decide +kernel
theorem dX7_arrives_52 : decode cX7_arrives 52 = .ok (.getfield 7, 3) := by decide +kernel
theorem dX7_arrives_55 : decode cX7_arrives 55 = .ok (.iconst 5, 1) := by decide +kernel
theorem dX7_arrives_56 : decode cX7_arrives 56 = .ok (.iaload, 1) := by decide +kernel
theorem dX7_arrives_57 : decode cX7_arrives 57 = .ok (.if_icmp .le 19, 3) := by decide +kernel
theorem dX7_arrives_60 : decode cX7_arrives 60 = .ok (.aload_n 0, 1) := by decide +kernel
theorem dX7_arrives_61 : decode cX7_arrives 61 = .ok (.iload_n 3, 1) := by decide +kernel
theorem dX7_arrives_62 : decode cX7_arrives 62 = .ok (.iconst 3, 1) := by decide +kernel
theorem dX7_arrives_63 : decode cX7_arrives 63 = .ok (.invokevirtual 57, 3) := by decide +kernel
theorem dX7_arrives_66 : decode cX7_arrives 66 = .ok (.aload_n 0, 1) := by decide +kernel
theorem dX7_arrives_67 : decode cX7_arrives 67 = .ok (.getfield 7, 3) := by decide +kernel
theorem dX7_arrives_70 : decode cX7_arrives 70 = .ok (.iconst 5, 1) := by decide +kernel
theorem dX7_arrives_71 : decode cX7_arrives 71 = .ok (.iaload, 1) := by decide +kernel
theorem dX7_arrives_72 : decode cX7_arrives 72 = .ok (.isub, 1) := by decide +kernel
theorem dX7_arrives_73 : decode cX7_arrives 73 = .ok (.goto 4, 3) := by decide +kernel
theorem dX7_arrives_76 : decode cX7_arrives 76 = .ok (.iconst 0, 1) := by decide +kernel
theorem dX7_arrives_77 : decode cX7_arrives 77 = .ok (.istore 5, 2) := by decide +kernel
theorem dX7_arrives_79 : decode cX7_arrives 79 = .ok (.aload_n 0, 1) := by decide +kernel
theorem dX7_arrives_80 : decode cX7_arrives 80 = .ok (.iload_n 3, 1) := by decide +kernel
theorem dX7_arrives_81 : decode cX7_arrives 81 = .ok (.bipush 6, 2) := by decide +kernel
theorem dX7_arrives_83 : decode cX7_arrives 83 = .ok (.iload 4, 2) := by decide +kernel
theorem dX7_arrives_85 : decode cX7_arrives 85 = .ok (.ifCond .eq 7, 3) := by decide +kernel
theorem dX7_arrives_88 : decode cX7_arrives 88 = .ok (.iconst 4, 1) := by decide +kernel
theorem dX7_arrives_89 : decode cX7_arrives 89 = .ok (.goto 4, 3) := by decide +kernel
theorem dX7_arrives_92 : decode cX7_arrives 92 = .ok (.iconst 3, 1) := by decide +kernel
theorem dX7_arrives_93 : decode cX7_arrives 93 = .ok (.invokevirtual 65, 3) := by decide +kernel
theorem dX7_arrives_96 : decode cX7_arrives 96 = .ok (.aload_n 0, 1) := by decide +kernel
theorem dX7_arrives_97 : decode cX7_arrives 97 = .ok (.iload_n 3, 1) := by decide +kernel
theorem dX7_arrives_98 : decode cX7_arrives 98 = .ok (.bipush 8, 2) := by decide +kernel
theorem dX7_arrives_100 : decode cX7_arrives 100 = .ok (.aload_n 0, 1) := by decide +kernel
theorem dX7_arrives_101 : decode cX7_arrives 101 = .ok (.getfield 7, 3) := by decide +kernel
theorem dX7_arrives_104 : decode cX7_arrives 104 = .ok (.iconst 5, 1) := by decide +kernel
theorem dX7_arrives_105 : decode cX7_arrives 105 = .ok (.iaload, 1) := by decide +kernel
theorem dX7_arrives_106 : decode cX7_arrives 106 = .ok (.invokevirtual 65, 3) := by decide +kernel
theorem dX7_arrives_109 : decode cX7_arrives 109 = .ok (.aload_n 0, 1) := by decide +kernel
theorem dX7_arrives_110 : decode cX7_arrives 110 = .ok (.getfield 7, 3) := by decide +kernel
theorem dX7_arrives_113 : decode cX7_arrives 113 = .ok (.iload 4, 2) := by decide +kernel
theorem dX7_arrives_115 : decode cX7_arrives 115 = .ok (.ifCond .eq 8, 3) := by decide +kernel
theorem dX7_arrives_118 : decode cX7_arrives 118 = .ok (.bipush 8, 2) := by decide +kernel
theorem dX7_arrives_120 : decode cX7_arrives 120 = .ok (.goto 5, 3) := by decide +kernel
theorem dX7_arrives_123 : decode cX7_arrives 123 = .ok (.bipush 7, 2) := by decide +kernel
theorem dX7_arrives_125 : decode cX7_arrives 125 = .ok (.dup2, 1) := by decide +kernel
theorem dX7_arrives_126 : decode cX7_arrives 126 = .ok (.iaload, 1) := by decide +kernel
theorem dX7_arrives_127 : decode cX7_arrives 127 = .ok (.iconst 1, 1) := by decide +kernel
theorem dX7_arrives_128 : decode cX7_arrives 128 = .ok (.iadd, 1) := by decide +kernel
theorem dX7_arrives_129 : decode cX7_arrives 129 = .ok (.iastore, 1) := by decide +kernel
theorem dX7_arrives_130 : decode cX7_arrives 130 = .ok (.aload_n 0, 1) := by decide +kernel
theorem dX7_arrives_131 : decode cX7_arrives 131 = .ok (.getfield 7, 3) := by decide +kernel
theorem dX7_arrives_134 : decode cX7_arrives 134 = .ok (.bipush 9, 2) := by decide +kernel
theorem dX7_arrives_136 : decode cX7_arrives 136 = .ok (.dup2, 1) := by decide +kernel
theorem dX7_arrives_137 : decode cX7_arrives 137 = .ok (.iaload, 1) := by decide +kernel
theorem dX7_arrives_138 : decode cX7_arrives 138 = .ok (.iload 4, 2) := by decide +kernel
theorem dX7_arrives_140 : decode cX7_arrives 140 = .ok (.ifCond .eq 7, 3) := by decide +kernel
theorem dX7_arrives_143 : decode cX7_arrives 143 = .ok (.iconst 0, 1) := by decide +kernel
theorem dX7_arrives_144 : decode cX7_arrives 144 = .ok (.goto 9, 3) := by decide +kernel
theorem dX7_arrives_147 : decode cX7_arrives 147 = .ok (.aload_n 0, 1) := by decide +kernel
theorem dX7_arrives_148 : decode cX7_arrives 148 = .ok (.iload_n 3, 1) := by decide +kernel
theorem dX7_arrives_149 : decode cX7_arrives 149 = .ok (.iconst 5, 1) := by decide +kernel
theorem dX7_arrives_150 : decode cX7_arrives 150 = .ok (.invokevirtual 57, 3) := by decide +kernel
theorem dX7_arrives_153 : decode cX7_arrives 153 = .ok (.iadd, 1) := by decide +kernel
theorem dX7_arrives_154 : decode cX7_arrives 154 = .ok (.iastore, 1) := by decide +kernel
theorem dX7_arrives_155 : decode cX7_arrives 155 = .ok (.aload_n 0, 1) := by decide +kernel
theorem dX7_arrives_156 : decode cX7_arrives 156 = .ok (.getfield 7, 3) := by decide +kernel
theorem dX7_arrives_159 : decode cX7_arrives 159 = .ok (.bipush 12, 2) := by decide +kernel
theorem dX7_arrives_161 : decode cX7_arrives 161 = .ok (.dup2, 1) := by decide +kernel
theorem dX7_arrives_162 : decode cX7_arrives 162 = .ok (.iaload, 1) := by decide +kernel
theorem dX7_arrives_163 : decode cX7_arrives 163 = .ok (.iload 5, 2) := by decide +kernel
theorem dX7_arrives_165 : decode cX7_arrives 165 = .ok (.aload_n 0, 1) := by decide +kernel
theorem dX7_arrives_166 : decode cX7_arrives 166 = .ok (.getfield 7, 3) := by decide +kernel
theorem dX7_arrives_169 : decode cX7_arrives 169 = .ok (.iconst 2, 1) := by decide +kernel
theorem dX7_arrives_170 : decode cX7_arrives 170 = .ok (.iaload, 1) := by decide +kernel
theorem dX7_arrives_171 : decode cX7_arrives 171 = .ok (.imul, 1) := by decide +kernel
theorem dX7_arrives_172 : decode cX7_arrives 172 = .ok (.iadd, 1) := by decide +kernel
theorem dX7_arrives_173 : decode cX7_arrives 173 = .ok (.iastore, 1) := by decide +kernel
theorem dX7_arrives_174 : decode cX7_arrives 174 = .ok (.iinc 2 1, 3) := by decide +kernel
theorem dX7_arrives_177 : decode cX7_arrives 177 = .ok (.iinc 3 1, 3) := by decide +kernel
theorem dX7_arrives_180 : decode cX7_arrives 180 = .ok (.goto (-176), 3) := by decide +kernel
theorem dX7_arrives_183 : decode cX7_arrives 183 = .ok (.aload_n 0, 1) := by decide +kernel
theorem dX7_arrives_184 : decode cX7_arrives 184 = .ok (.iload_n 1, 1) := by decide +kernel
theorem dX7_arrives_185 : decode cX7_arrives 185 = .ok (.bipush 6, 2) := by decide +kernel
theorem dX7_arrives_187 : decode cX7_arrives 187 = .ok (.aload_n 0, 1) := by decide +kernel
theorem dX7_arrives_188 : decode cX7_arrives 188 = .ok (.iload_n 1, 1) := by decide +kernel
theorem dX7_arrives_189 : decode cX7_arrives 189 = .ok (.aload_n 0, 1) := by decide +kernel
theorem dX7_arrives_190 : decode cX7_arrives 190 = .ok (.iload_n 1, 1) := by decide +kernel
theorem dX7_arrives_191 : decode cX7_arrives 191 = .ok (.iconst 3, 1) := by decide +kernel
theorem dX7_arrives_192 : decode cX7_arrives 192 = .ok (.invokevirtual 91, 3) := by decide +kernel
theorem dX7_arrives_195 : decode cX7_arrives 195 = .ok (.aload_n 0, 1) := by decide +kernel
theorem dX7_arrives_196 : decode cX7_arrives 196 = .ok (.getfield 7, 3) := by decide +kernel
theorem dX7_arrives_199 : decode cX7_arrives 199 = .ok (.iconst 5, 1) := by decide +kernel
theorem dX7_arrives_200 : decode cX7_arrives 200 = .ok (.iaload, 1) := by decide +kernel
theorem dX7_arrives_201 : decode cX7_arrives 201 = .ok (.invokevirtual 131, 3) := by decide +kernel
theorem dX7_arrives_204 : decode cX7_arrives 204 = .ok (.invokevirtual 84, 3) := by decide +kernel
theorem dX7_arrives_207 : decode cX7_arrives 207 = .ok (.aload_n 0, 1) := by decide +kernel
theorem dX7_arrives_208 : decode cX7_arrives 208 = .ok (.iload_n 1, 1) := by decide +kernel
theorem dX7_arrives_209 : decode cX7_arrives 209 = .ok (.iconst 2, 1) := by decide +kernel
theorem dX7_arrives_210 : decode cX7_arrives 210 = .ok (.iconst 2, 1) := by decide +kernel
theorem dX7_arrives_211 : decode cX7_arrives 211 = .ok (.invokevirtual 84, 3) := by decide +kernel
theorem dX7_arrives_214 : decode cX7_arrives 214 = .ok (.aload_n 0, 1) := by decide +kernel
theorem dX7_arrives_215 : decode cX7_arrives 215 = .ok (.iload_n 1, 1) := by decide +kernel
theorem dX7_arrives_216 : decode cX7_arrives 216 = .ok (.iconst 4, 1) := by decide +kernel
theorem dX7_arrives_217 : decode cX7_arrives 217 = .ok (.aload_n 0, 1) := by decide +kernel
theorem dX7_arrives_218 : decode cX7_arrives 218 = .ok (.getfield 7, 3) := by decide +kernel
theorem dX7_arrives_221 : decode cX7_arrives 221 = .ok (.iconst 5, 1) := by decide +kernel
theorem dX7_arrives_222 : decode cX7_arrives 222 = .ok (.iaload, 1) := by decide +kernel
theorem dX7_arrives_223 : decode cX7_arrives 223 = .ok (.aload_n 0, 1) := by decide +kernel
theorem dX7_arrives_224 : decode cX7_arrives 224 = .ok (.iload_n 1, 1) := by decide +kernel
theorem dX7_arrives_225 : decode cX7_arrives 225 = .ok (.iconst 5, 1) := by decide +kernel
theorem dX7_arrives_226 : decode cX7_arrives 226 = .ok (.invokevirtual 91, 3) := by decide +kernel
theorem dX7_arrives_229 : decode cX7_arrives 229 = .ok (.iadd, 1) := by decide +kernel
theorem dX7_arrives_230 : decode cX7_arrives 230 = .ok (.invokevirtual 84, 3) := by decide +kernel
theorem dX7_arrives_233 : decode cX7_arrives 233 = .ok (.iload_n 2, 1) := by decide +kernel
theorem dX7_arrives_234 : decode cX7_arrives 234 = .ok (.ireturn, 1) := by decide +kernel
theorem dX7_returns_0 : decode cX7_returns 0 = .ok (.aload_n 0, 1) := by decide +kernel
theorem dX7_returns_1 : decode cX7_returns 1 = .ok (.getfield 7, 3) := by decide +kernel
theorem dX7_returns_4 : decode cX7_returns 4 = .ok (.bipush 10, 2) := by decide +kernel
theorem dX7_returns_6 : decode cX7_returns 6 = .ok (.dup2, 1) := by decide +kernel
theorem dX7_returns_7 : decode cX7_returns 7 = .ok (.iaload, 1) := by decide +kernel
theorem dX7_returns_8 : decode cX7_returns 8 = .ok (.aload_n 0, 1) := by decide +kernel
theorem dX7_returns_9 : decode cX7_returns 9 = .ok (.iload_n 1, 1) := by decide +kernel
theorem dX7_returns_10 : decode cX7_returns 10 = .ok (.bipush 6, 2) := by decide +kernel
theorem dX7_returns_12 : decode cX7_returns 12 = .ok (.invokevirtual 91, 3) := by decide +kernel
theorem dX7_returns_15 : decode cX7_returns 15 = .ok (.iadd, 1) := by decide +kernel
theorem dX7_returns_16 : decode cX7_returns 16 = .ok (.iastore, 1) := by decide +kernel
theorem dX7_returns_17 : decode cX7_returns 17 = .ok (.aload_n 0, 1) := by decide +kernel
theorem dX7_returns_18 : decode cX7_returns 18 = .ok (.iload_n 1, 1) := by decide +kernel
theorem dX7_returns_19 : decode cX7_returns 19 = .ok (.bipush 6, 2) := by decide +kernel
theorem dX7_returns_21 : decode cX7_returns 21 = .ok (.iconst 0, 1) := by decide +kernel
theorem dX7_returns_22 : decode cX7_returns 22 = .ok (.invokevirtual 84, 3) := by decide +kernel
theorem dX7_returns_25 : decode cX7_returns 25 = .ok (.aload_n 0, 1) := by decide +kernel
theorem dX7_returns_26 : decode cX7_returns 26 = .ok (.iload_n 1, 1) := by decide +kernel
theorem dX7_returns_27 : decode cX7_returns 27 = .ok (.bipush 7, 2) := by decide +kernel
theorem dX7_returns_29 : decode cX7_returns 29 = .ok (.aload_n 0, 1) := by decide +kernel
theorem dX7_returns_30 : decode cX7_returns 30 = .ok (.iload_n 1, 1) := by decide +kernel
theorem dX7_returns_31 : decode cX7_returns 31 = .ok (.bipush 7, 2) := by decide +kernel
theorem dX7_returns_33 : decode cX7_returns 33 = .ok (.invokevirtual 91, 3) := by decide +kernel
theorem dX7_returns_36 : decode cX7_returns 36 = .ok (.iconst 1, 1) := by decide +kernel
theorem dX7_returns_37 : decode cX7_returns 37 = .ok (.iadd, 1) := by decide +kernel
theorem dX7_returns_38 : decode cX7_returns 38 = .ok (.invokevirtual 84, 3) := by decide +kernel
theorem dX7_returns_41 : decode cX7_returns 41 = .ok (.aload_n 0, 1) := by decide +kernel
theorem dX7_returns_42 : decode cX7_returns 42 = .ok (.iload_n 1, 1) := by decide +kernel
theorem dX7_returns_43 : decode cX7_returns 43 = .ok (.iconst 2, 1) := by decide +kernel
theorem dX7_returns_44 : decode cX7_returns 44 = .ok (.iconst 0, 1) := by decide +kernel
theorem dX7_returns_45 : decode cX7_returns 45 = .ok (.invokevirtual 84, 3) := by decide +kernel
theorem dX7_returns_48 : decode cX7_returns 48 = .ok (.return_, 1) := by decide +kernel
theorem dX7_hour_0 : decode cX7_hour 0 = .ok (.aload_n 0, 1) := by decide +kernel
theorem dX7_hour_1 : decode cX7_hour 1 = .ok (.getfield 7, 3) := by decide +kernel
theorem dX7_hour_4 : decode cX7_hour 4 = .ok (.iconst 5, 1) := by decide +kernel
theorem dX7_hour_5 : decode cX7_hour 5 = .ok (.dup2, 1) := by decide +kernel
theorem dX7_hour_6 : decode cX7_hour 6 = .ok (.iaload, 1) := by decide +kernel
theorem dX7_hour_7 : decode cX7_hour 7 = .ok (.iconst 1, 1) := by decide +kernel
theorem dX7_hour_8 : decode cX7_hour 8 = .ok (.iadd, 1) := by decide +kernel
theorem dX7_hour_9 : decode cX7_hour 9 = .ok (.iastore, 1) := by decide +kernel
theorem dX7_hour_10 : decode cX7_hour 10 = .ok (.iconst 0, 1) := by decide +kernel
theorem dX7_hour_11 : decode cX7_hour 11 = .ok (.istore_n 1, 1) := by decide +kernel
theorem dX7_hour_12 : decode cX7_hour 12 = .ok (.iconst 0, 1) := by decide +kernel
theorem dX7_hour_13 : decode cX7_hour 13 = .ok (.istore_n 2, 1) := by decide +kernel
theorem dX7_hour_14 : decode cX7_hour 14 = .ok (.iload_n 2, 1) := by decide +kernel
theorem dX7_hour_15 : decode cX7_hour 15 = .ok (.aload_n 0, 1) := by decide +kernel
theorem dX7_hour_16 : decode cX7_hour 16 = .ok (.getfield 7, 3) := by decide +kernel
theorem dX7_hour_19 : decode cX7_hour 19 = .ok (.iconst 4, 1) := by decide +kernel
theorem dX7_hour_20 : decode cX7_hour 20 = .ok (.iaload, 1) := by decide +kernel
theorem dX7_hour_21 : decode cX7_hour 21 = .ok (.if_icmp .ge 73, 3) := by decide +kernel
theorem dX7_hour_24 : decode cX7_hour 24 = .ok (.aload_n 0, 1) := by decide +kernel
theorem dX7_hour_25 : decode cX7_hour 25 = .ok (.iload_n 2, 1) := by decide +kernel
theorem dX7_hour_26 : decode cX7_hour 26 = .ok (.iconst 2, 1) := by decide +kernel
theorem dX7_hour_27 : decode cX7_hour 27 = .ok (.invokevirtual 91, 3) := by decide +kernel
theorem dX7_hour_30 : decode cX7_hour 30 = .ok (.ifCond .le 22, 3) := by decide +kernel
theorem dX7_hour_33 : decode cX7_hour 33 = .ok (.aload_n 0, 1) := by decide +kernel
theorem dX7_hour_34 : decode cX7_hour 34 = .ok (.iload_n 2, 1) := by decide +kernel
theorem dX7_hour_35 : decode cX7_hour 35 = .ok (.iconst 4, 1) := by decide +kernel
theorem dX7_hour_36 : decode cX7_hour 36 = .ok (.invokevirtual 91, 3) := by decide +kernel
theorem dX7_hour_39 : decode cX7_hour 39 = .ok (.aload_n 0, 1) := by decide +kernel
theorem dX7_hour_40 : decode cX7_hour 40 = .ok (.getfield 7, 3) := by decide +kernel
theorem dX7_hour_43 : decode cX7_hour 43 = .ok (.iconst 5, 1) := by decide +kernel
theorem dX7_hour_44 : decode cX7_hour 44 = .ok (.iaload, 1) := by decide +kernel
theorem dX7_hour_45 : decode cX7_hour 45 = .ok (.if_icmp .ne 7, 3) := by decide +kernel
theorem dX7_hour_48 : decode cX7_hour 48 = .ok (.iconst 1, 1) := by decide +kernel
theorem dX7_hour_49 : decode cX7_hour 49 = .ok (.goto 4, 3) := by decide +kernel
theorem dX7_hour_52 : decode cX7_hour 52 = .ok (.iconst 0, 1) := by decide +kernel
theorem dX7_hour_53 : decode cX7_hour 53 = .ok (.istore_n 3, 1) := by decide +kernel
theorem dX7_hour_54 : decode cX7_hour 54 = .ok (.iload_n 3, 1) := by decide +kernel
theorem dX7_hour_55 : decode cX7_hour 55 = .ok (.ifCond .eq 24, 3) := by decide +kernel
theorem dX7_hour_58 : decode cX7_hour 58 = .ok (.aload_n 0, 1) := by decide +kernel
theorem dX7_hour_59 : decode cX7_hour 59 = .ok (.iload_n 2, 1) := by decide +kernel
theorem dX7_hour_60 : decode cX7_hour 60 = .ok (.iconst 2, 1) := by decide +kernel
theorem dX7_hour_61 : decode cX7_hour 61 = .ok (.invokevirtual 91, 3) := by decide +kernel
theorem dX7_hour_64 : decode cX7_hour 64 = .ok (.iconst 1, 1) := by decide +kernel
theorem dX7_hour_65 : decode cX7_hour 65 = .ok (.if_icmp .ne 14, 3) := by decide +kernel
theorem dX7_hour_68 : decode cX7_hour 68 = .ok (.iload_n 1, 1) := by decide +kernel
theorem dX7_hour_69 : decode cX7_hour 69 = .ok (.aload_n 0, 1) := by decide +kernel
theorem dX7_hour_70 : decode cX7_hour 70 = .ok (.iload_n 2, 1) := by decide +kernel
theorem dX7_hour_71 : decode cX7_hour 71 = .ok (.invokevirtual 134, 3) := by decide +kernel
theorem dX7_hour_74 : decode cX7_hour 74 = .ok (.iadd, 1) := by decide +kernel
theorem dX7_hour_75 : decode cX7_hour 75 = .ok (.istore_n 1, 1) := by decide +kernel
theorem dX7_hour_76 : decode cX7_hour 76 = .ok (.goto 12, 3) := by decide +kernel
theorem dX7_hour_79 : decode cX7_hour 79 = .ok (.iload_n 3, 1) := by decide +kernel
theorem dX7_hour_80 : decode cX7_hour 80 = .ok (.ifCond .eq 8, 3) := by decide +kernel
theorem dX7_hour_83 : decode cX7_hour 83 = .ok (.aload_n 0, 1) := by decide +kernel
theorem dX7_hour_84 : decode cX7_hour 84 = .ok (.iload_n 2, 1) := by decide +kernel
theorem dX7_hour_85 : decode cX7_hour 85 = .ok (.invokevirtual 137, 3) := by decide +kernel
theorem dX7_hour_88 : decode cX7_hour 88 = .ok (.iinc 2 1, 3) := by decide +kernel
theorem dX7_hour_91 : decode cX7_hour 91 = .ok (.goto (-77), 3) := by decide +kernel
theorem dX7_hour_94 : decode cX7_hour 94 = .ok (.aload_n 0, 1) := by decide +kernel
theorem dX7_hour_95 : decode cX7_hour 95 = .ok (.getfield 7, 3) := by decide +kernel
theorem dX7_hour_98 : decode cX7_hour 98 = .ok (.bipush 6, 2) := by decide +kernel
theorem dX7_hour_100 : decode cX7_hour 100 = .ok (.iaload, 1) := by decide +kernel
theorem dX7_hour_101 : decode cX7_hour 101 = .ok (.iconst 1, 1) := by decide +kernel
theorem dX7_hour_102 : decode cX7_hour 102 = .ok (.isub, 1) := by decide +kernel
theorem dX7_hour_103 : decode cX7_hour 103 = .ok (.istore_n 2, 1) := by decide +kernel
theorem dX7_hour_104 : decode cX7_hour 104 = .ok (.iload_n 2, 1) := by decide +kernel
theorem dX7_hour_105 : decode cX7_hour 105 = .ok (.ifCond .lt 29, 3) := by decide +kernel
theorem dX7_hour_108 : decode cX7_hour 108 = .ok (.aload_n 0, 1) := by decide +kernel
theorem dX7_hour_109 : decode cX7_hour 109 = .ok (.iload_n 2, 1) := by decide +kernel
theorem dX7_hour_110 : decode cX7_hour 110 = .ok (.iconst 4, 1) := by decide +kernel
theorem dX7_hour_111 : decode cX7_hour 111 = .ok (.invokevirtual 124, 3) := by decide +kernel
theorem dX7_hour_114 : decode cX7_hour 114 = .ok (.aload_n 0, 1) := by decide +kernel
theorem dX7_hour_115 : decode cX7_hour 115 = .ok (.getfield 7, 3) := by decide +kernel
theorem dX7_hour_118 : decode cX7_hour 118 = .ok (.iconst 5, 1) := by decide +kernel
theorem dX7_hour_119 : decode cX7_hour 119 = .ok (.iaload, 1) := by decide +kernel
theorem dX7_hour_120 : decode cX7_hour 120 = .ok (.if_icmp .ge 8, 3) := by decide +kernel
theorem dX7_hour_123 : decode cX7_hour 123 = .ok (.aload_n 0, 1) := by decide +kernel
theorem dX7_hour_124 : decode cX7_hour 124 = .ok (.iload_n 2, 1) := by decide +kernel
theorem dX7_hour_125 : decode cX7_hour 125 = .ok (.invokevirtual 127, 3) := by decide +kernel
theorem dX7_hour_128 : decode cX7_hour 128 = .ok (.iinc 2 (-1), 3) := by decide +kernel
theorem dX7_hour_131 : decode cX7_hour 131 = .ok (.goto (-27), 3) := by decide +kernel
theorem dX7_hour_134 : decode cX7_hour 134 = .ok (.iconst 0, 1) := by decide +kernel
theorem dX7_hour_135 : decode cX7_hour 135 = .ok (.istore_n 2, 1) := by decide +kernel
theorem dX7_hour_136 : decode cX7_hour 136 = .ok (.iload_n 2, 1) := by decide +kernel
theorem dX7_hour_137 : decode cX7_hour 137 = .ok (.aload_n 0, 1) := by decide +kernel
theorem dX7_hour_138 : decode cX7_hour 138 = .ok (.getfield 7, 3) := by decide +kernel
theorem dX7_hour_141 : decode cX7_hour 141 = .ok (.iconst 3, 1) := by decide +kernel
theorem dX7_hour_142 : decode cX7_hour 142 = .ok (.iaload, 1) := by decide +kernel
theorem dX7_hour_143 : decode cX7_hour 143 = .ok (.if_icmp .ge 66, 3) := by decide +kernel
theorem dX7_hour_146 : decode cX7_hour 146 = .ok (.aload_n 0, 1) := by decide +kernel
theorem dX7_hour_147 : decode cX7_hour 147 = .ok (.getfield 7, 3) := by decide +kernel
theorem dX7_hour_150 : decode cX7_hour 150 = .ok (.bipush 11, 2) := by decide +kernel
theorem dX7_hour_152 : decode cX7_hour 152 = .ok (.dup2, 1) := by decide +kernel
theorem dX7_hour_153 : decode cX7_hour 153 = .ok (.iaload, 1) := by decide +kernel
theorem dX7_hour_154 : decode cX7_hour 154 = .ok (.aload_n 0, 1) := by decide +kernel
theorem dX7_hour_155 : decode cX7_hour 155 = .ok (.iload_n 2, 1) := by decide +kernel
theorem dX7_hour_156 : decode cX7_hour 156 = .ok (.invokevirtual 140, 3) := by decide +kernel
theorem dX7_hour_159 : decode cX7_hour 159 = .ok (.ifCond .eq 41, 3) := by decide +kernel
theorem dX7_hour_162 : decode cX7_hour 162 = .ok (.aload_n 0, 1) := by decide +kernel
theorem dX7_hour_163 : decode cX7_hour 163 = .ok (.getfield 7, 3) := by decide +kernel
theorem dX7_hour_166 : decode cX7_hour 166 = .ok (.iconst 5, 1) := by decide +kernel
theorem dX7_hour_167 : decode cX7_hour 167 = .ok (.iaload, 1) := by decide +kernel
theorem dX7_hour_168 : decode cX7_hour 168 = .ok (.aload_n 0, 1) := by decide +kernel
theorem dX7_hour_169 : decode cX7_hour 169 = .ok (.iload_n 2, 1) := by decide +kernel
theorem dX7_hour_170 : decode cX7_hour 170 = .ok (.bipush 10, 2) := by decide +kernel
theorem dX7_hour_172 : decode cX7_hour 172 = .ok (.invokevirtual 57, 3) := by decide +kernel
theorem dX7_hour_175 : decode cX7_hour 175 = .ok (.isub, 1) := by decide +kernel
theorem dX7_hour_176 : decode cX7_hour 176 = .ok (.aload_n 0, 1) := by decide +kernel
theorem dX7_hour_177 : decode cX7_hour 177 = .ok (.getfield 7, 3) := by decide +kernel
theorem dX7_hour_180 : decode cX7_hour 180 = .ok (.iconst 1, 1) := by decide +kernel
theorem dX7_hour_181 : decode cX7_hour 181 = .ok (.iaload, 1) := by decide +kernel
theorem dX7_hour_182 : decode cX7_hour 182 = .ok (.if_icmp .le 18, 3) := by decide +kernel
theorem dX7_hour_185 : decode cX7_hour 185 = .ok (.aload_n 0, 1) := by decide +kernel
theorem dX7_hour_186 : decode cX7_hour 186 = .ok (.iload_n 2, 1) := by decide +kernel
theorem dX7_hour_187 : decode cX7_hour 187 = .ok (.iconst 1, 1) := by decide +kernel
theorem dX7_hour_188 : decode cX7_hour 188 = .ok (.invokevirtual 57, 3) := by decide +kernel
theorem dX7_hour_191 : decode cX7_hour 191 = .ok (.bipush 9, 2) := by decide +kernel
theorem dX7_hour_193 : decode cX7_hour 193 = .ok (.iadd, 1) := by decide +kernel
theorem dX7_hour_194 : decode cX7_hour 194 = .ok (.bipush 10, 2) := by decide +kernel
theorem dX7_hour_196 : decode cX7_hour 196 = .ok (.idiv, 1) := by decide +kernel
theorem dX7_hour_197 : decode cX7_hour 197 = .ok (.goto 4, 3) := by decide +kernel
theorem dX7_hour_200 : decode cX7_hour 200 = .ok (.iconst 0, 1) := by decide +kernel
theorem dX7_hour_201 : decode cX7_hour 201 = .ok (.iadd, 1) := by decide +kernel
theorem dX7_hour_202 : decode cX7_hour 202 = .ok (.iastore, 1) := by decide +kernel
theorem dX7_hour_203 : decode cX7_hour 203 = .ok (.iinc 2 1, 3) := by decide +kernel
theorem dX7_hour_206 : decode cX7_hour 206 = .ok (.goto (-70), 3) := by decide +kernel
theorem dX7_hour_209 : decode cX7_hour 209 = .ok (.iload_n 1, 1) := by decide +kernel
theorem dX7_hour_210 : decode cX7_hour 210 = .ok (.ireturn, 1) := by decide +kernel
theorem dX7_pass_0 : decode cX7_pass 0 = .ok (.iload_n 1, 1) := by decide +kernel
theorem dX7_pass_1 : decode cX7_pass 1 = .ok (.iconst 1, 1) := by decide +kernel
theorem dX7_pass_2 : decode cX7_pass 2 = .ok (.bipush 99, 2) := by decide +kernel
theorem dX7_pass_4 : decode cX7_pass 4 = .ok (.invokestatic 70, 3) := by decide +kernel
theorem dX7_pass_7 : decode cX7_pass 7 = .ok (.ifCond .ne 6, 3) := by decide +kernel
theorem dX7_pass_10 : decode cX7_pass 10 = .ok (.ldc 74, 2) := by decide +kernel
theorem dX7_pass_12 : decode cX7_pass 12 = .ok (.ireturn, 1) := by decide +kernel
theorem dX7_pass_13 : decode cX7_pass 13 = .ok (.aload_n 0, 1) := by decide +kernel
theorem dX7_pass_14 : decode cX7_pass 14 = .ok (.getfield 7, 3) := by decide +kernel
theorem dX7_pass_17 : decode cX7_pass 17 = .ok (.iconst 5, 1) := by decide +kernel
theorem dX7_pass_18 : decode cX7_pass 18 = .ok (.iaload, 1) := by decide +kernel
theorem dX7_pass_19 : decode cX7_pass 19 = .ok (.iload_n 1, 1) := by decide +kernel
theorem dX7_pass_20 : decode cX7_pass 20 = .ok (.iadd, 1) := by decide +kernel
theorem dX7_pass_21 : decode cX7_pass 21 = .ok (.sipush 9000, 3) := by decide +kernel
theorem dX7_pass_24 : decode cX7_pass 24 = .ok (.if_icmp .le 6, 3) := by decide +kernel
theorem dX7_pass_27 : decode cX7_pass 27 = .ok (.ldc 75, 2) := by decide +kernel
theorem dX7_pass_29 : decode cX7_pass 29 = .ok (.ireturn, 1) := by decide +kernel
theorem dX7_pass_30 : decode cX7_pass 30 = .ok (.aload_n 0, 1) := by decide +kernel
theorem dX7_pass_31 : decode cX7_pass 31 = .ok (.invokevirtual 76, 3) := by decide +kernel
theorem dX7_pass_34 : decode cX7_pass 34 = .ok (.iconst 0, 1) := by decide +kernel
theorem dX7_pass_35 : decode cX7_pass 35 = .ok (.istore_n 2, 1) := by decide +kernel
theorem dX7_pass_36 : decode cX7_pass 36 = .ok (.iconst 0, 1) := by decide +kernel
theorem dX7_pass_37 : decode cX7_pass 37 = .ok (.istore_n 3, 1) := by decide +kernel
theorem dX7_pass_38 : decode cX7_pass 38 = .ok (.iload_n 3, 1) := by decide +kernel
theorem dX7_pass_39 : decode cX7_pass 39 = .ok (.iload_n 1, 1) := by decide +kernel
theorem dX7_pass_40 : decode cX7_pass 40 = .ok (.if_icmp .ge 16, 3) := by decide +kernel
theorem dX7_pass_43 : decode cX7_pass 43 = .ok (.iload_n 2, 1) := by decide +kernel
theorem dX7_pass_44 : decode cX7_pass 44 = .ok (.aload_n 0, 1) := by decide +kernel
theorem dX7_pass_45 : decode cX7_pass 45 = .ok (.invokevirtual 143, 3) := by decide +kernel
theorem dX7_pass_48 : decode cX7_pass 48 = .ok (.iadd, 1) := by decide +kernel
theorem dX7_pass_49 : decode cX7_pass 49 = .ok (.istore_n 2, 1) := by decide +kernel
theorem dX7_pass_50 : decode cX7_pass 50 = .ok (.iinc 3 1, 3) := by decide +kernel
theorem dX7_pass_53 : decode cX7_pass 53 = .ok (.goto (-15), 3) := by decide +kernel
theorem dX7_pass_56 : decode cX7_pass 56 = .ok (.iload_n 2, 1) := by decide +kernel
theorem dX7_pass_57 : decode cX7_pass 57 = .ok (.ireturn, 1) := by decide +kernel
theorem dX7_set_0 : decode cX7_set 0 = .ok (.iload_n 1, 1) := by decide +kernel
theorem dX7_set_1 : decode cX7_set 1 = .ok (.iconst 0, 1) := by decide +kernel
theorem dX7_set_2 : decode cX7_set 2 = .ok (.iconst 2, 1) := by decide +kernel
theorem dX7_set_3 : decode cX7_set 3 = .ok (.invokestatic 70, 3) := by decide +kernel
theorem dX7_set_6 : decode cX7_set 6 = .ok (.ifCond .eq 40, 3) := by decide +kernel
theorem dX7_set_9 : decode cX7_set 9 = .ok (.iload_n 2, 1) := by decide +kernel
theorem dX7_set_10 : decode cX7_set 10 = .ok (.iload_n 1, 1) := by decide +kernel
theorem dX7_set_11 : decode cX7_set 11 = .ok (.ifCond .ne 7, 3) := by decide +kernel
theorem dX7_set_14 : decode cX7_set 14 = .ok (.iconst 1, 1) := by decide +kernel
theorem dX7_set_15 : decode cX7_set 15 = .ok (.goto 4, 3) := by decide +kernel
theorem dX7_set_18 : decode cX7_set 18 = .ok (.iconst 0, 1) := by decide +kernel
theorem dX7_set_19 : decode cX7_set 19 = .ok (.iload_n 1, 1) := by decide +kernel
theorem dX7_set_20 : decode cX7_set 20 = .ok (.ifCond .ne 8, 3) := by decide +kernel
theorem dX7_set_23 : decode cX7_set 23 = .ok (.bipush 24, 2) := by decide +kernel
theorem dX7_set_25 : decode cX7_set 25 = .ok (.goto 15, 3) := by decide +kernel
theorem dX7_set_28 : decode cX7_set 28 = .ok (.iload_n 1, 1) := by decide +kernel
theorem dX7_set_29 : decode cX7_set 29 = .ok (.iconst 1, 1) := by decide +kernel
theorem dX7_set_30 : decode cX7_set 30 = .ok (.if_icmp .ne 8, 3) := by decide +kernel
theorem dX7_set_33 : decode cX7_set 33 = .ok (.bipush 99, 2) := by decide +kernel
theorem dX7_set_35 : decode cX7_set 35 = .ok (.goto 5, 3) := by decide +kernel
theorem dX7_set_38 : decode cX7_set 38 = .ok (.bipush 20, 2) := by decide +kernel
theorem dX7_set_40 : decode cX7_set 40 = .ok (.invokestatic 70, 3) := by decide +kernel
theorem dX7_set_43 : decode cX7_set 43 = .ok (.ifCond .ne 6, 3) := by decide +kernel
theorem dX7_set_46 : decode cX7_set 46 = .ok (.ldc 74, 2) := by decide +kernel
theorem dX7_set_48 : decode cX7_set 48 = .ok (.ireturn, 1) := by decide +kernel
theorem dX7_set_49 : decode cX7_set 49 = .ok (.aload_n 0, 1) := by decide +kernel
theorem dX7_set_50 : decode cX7_set 50 = .ok (.invokevirtual 76, 3) := by decide +kernel
theorem dX7_set_53 : decode cX7_set 53 = .ok (.aload_n 0, 1) := by decide +kernel
theorem dX7_set_54 : decode cX7_set 54 = .ok (.getfield 7, 3) := by decide +kernel
theorem dX7_set_57 : decode cX7_set 57 = .ok (.iload_n 1, 1) := by decide +kernel
theorem dX7_set_58 : decode cX7_set 58 = .ok (.iaload, 1) := by decide +kernel
theorem dX7_set_59 : decode cX7_set 59 = .ok (.istore_n 3, 1) := by decide +kernel
theorem dX7_set_60 : decode cX7_set 60 = .ok (.aload_n 0, 1) := by decide +kernel
theorem dX7_set_61 : decode cX7_set 61 = .ok (.getfield 7, 3) := by decide +kernel
theorem dX7_set_64 : decode cX7_set 64 = .ok (.iload_n 1, 1) := by decide +kernel
theorem dX7_set_65 : decode cX7_set 65 = .ok (.iload_n 2, 1) := by decide +kernel
theorem dX7_set_66 : decode cX7_set 66 = .ok (.iastore, 1) := by decide +kernel
theorem dX7_set_67 : decode cX7_set 67 = .ok (.iload_n 3, 1) := by decide +kernel
theorem dX7_set_68 : decode cX7_set 68 = .ok (.ireturn, 1) := by decide +kernel
theorem dX7_parts_0 : decode cX7_parts 0 = .ok (.iconst 0, 1) := by decide +kernel
theorem dX7_parts_1 : decode cX7_parts 1 = .ok (.istore_n 2, 1) := by decide +kernel
theorem dX7_parts_2 : decode cX7_parts 2 = .ok (.iconst 0, 1) := by decide +kernel
theorem dX7_parts_3 : decode cX7_parts 3 = .ok (.istore_n 3, 1) := by decide +kernel
theorem dX7_parts_4 : decode cX7_parts 4 = .ok (.iload_n 3, 1) := by decide +kernel
theorem dX7_parts_5 : decode cX7_parts 5 = .ok (.aload_n 0, 1) := by decide +kernel
theorem dX7_parts_6 : decode cX7_parts 6 = .ok (.getfield 7, 3) := by decide +kernel
theorem dX7_parts_9 : decode cX7_parts 9 = .ok (.iconst 3, 1) := by decide +kernel
theorem dX7_parts_10 : decode cX7_parts 10 = .ok (.iaload, 1) := by decide +kernel
theorem dX7_parts_11 : decode cX7_parts 11 = .ok (.if_icmp .ge 44, 3) := by decide +kernel
theorem dX7_parts_14 : decode cX7_parts 14 = .ok (.iload_n 2, 1) := by decide +kernel
theorem dX7_parts_15 : decode cX7_parts 15 = .ok (.aload_n 0, 1) := by decide +kernel
theorem dX7_parts_16 : decode cX7_parts 16 = .ok (.iload_n 3, 1) := by decide +kernel
theorem dX7_parts_17 : decode cX7_parts 17 = .ok (.invokevirtual 61, 3) := by decide +kernel
theorem dX7_parts_20 : decode cX7_parts 20 = .ok (.ifCond .eq 26, 3) := by decide +kernel
theorem dX7_parts_23 : decode cX7_parts 23 = .ok (.aload_n 0, 1) := by decide +kernel
theorem dX7_parts_24 : decode cX7_parts 24 = .ok (.iload_n 3, 1) := by decide +kernel
theorem dX7_parts_25 : decode cX7_parts 25 = .ok (.bipush 9, 2) := by decide +kernel
theorem dX7_parts_27 : decode cX7_parts 27 = .ok (.invokevirtual 57, 3) := by decide +kernel
theorem dX7_parts_30 : decode cX7_parts 30 = .ok (.aload_n 0, 1) := by decide +kernel
theorem dX7_parts_31 : decode cX7_parts 31 = .ok (.iload_n 1, 1) := by decide +kernel
theorem dX7_parts_32 : decode cX7_parts 32 = .ok (.bipush 9, 2) := by decide +kernel
theorem dX7_parts_34 : decode cX7_parts 34 = .ok (.invokevirtual 57, 3) := by decide +kernel
theorem dX7_parts_37 : decode cX7_parts 37 = .ok (.if_icmp .ne 9, 3) := by decide +kernel
theorem dX7_parts_40 : decode cX7_parts 40 = .ok (.iconst 1, 1) := by decide +kernel
theorem dX7_parts_41 : decode cX7_parts 41 = .ok (.iload_n 3, 1) := by decide +kernel
theorem dX7_parts_42 : decode cX7_parts 42 = .ok (.ishl, 1) := by decide +kernel
theorem dX7_parts_43 : decode cX7_parts 43 = .ok (.goto 4, 3) := by decide +kernel
theorem dX7_parts_46 : decode cX7_parts 46 = .ok (.iconst 0, 1) := by decide +kernel
theorem dX7_parts_47 : decode cX7_parts 47 = .ok (.ior, 1) := by decide +kernel
theorem dX7_parts_48 : decode cX7_parts 48 = .ok (.istore_n 2, 1) := by decide +kernel
theorem dX7_parts_49 : decode cX7_parts 49 = .ok (.iinc 3 1, 3) := by decide +kernel
theorem dX7_parts_52 : decode cX7_parts 52 = .ok (.goto (-48), 3) := by decide +kernel
theorem dX7_parts_55 : decode cX7_parts 55 = .ok (.iload_n 2, 1) := by decide +kernel
theorem dX7_parts_56 : decode cX7_parts 56 = .ok (.ireturn, 1) := by decide +kernel
theorem dX7_consignmentOf_0 : decode cX7_consignmentOf 0 = .ok (.aload_n 0, 1) := by decide +kernel
theorem dX7_consignmentOf_1 : decode cX7_consignmentOf 1 = .ok (.iload_n 1, 1) := by decide +kernel
theorem dX7_consignmentOf_2 : decode cX7_consignmentOf 2 = .ok (.invokevirtual 61, 3) := by decide +kernel
theorem dX7_consignmentOf_5 : decode cX7_consignmentOf 5 = .ok (.ifCond .eq 13, 3) := by decide +kernel
theorem dX7_consignmentOf_8 : decode cX7_consignmentOf 8 = .ok (.iload_n 2, 1) := by decide +kernel
theorem dX7_consignmentOf_9 : decode cX7_consignmentOf 9 = .ok (.iconst 0, 1) := by decide +kernel
theorem dX7_consignmentOf_10 : decode cX7_consignmentOf 10 = .ok (.bipush 10, 2) := by decide +kernel
theorem dX7_consignmentOf_12 : decode cX7_consignmentOf 12 = .ok (.invokestatic 70, 3) := by decide +kernel
theorem dX7_consignmentOf_15 : decode cX7_consignmentOf 15 = .ok (.ifCond .ne 6, 3) := by decide +kernel
theorem dX7_consignmentOf_18 : decode cX7_consignmentOf 18 = .ok (.ldc 74, 2) := by decide +kernel
theorem dX7_consignmentOf_20 : decode cX7_consignmentOf 20 = .ok (.ireturn, 1) := by decide +kernel
theorem dX7_consignmentOf_21 : decode cX7_consignmentOf 21 = .ok (.iload_n 2, 1) := by decide +kernel
theorem dX7_consignmentOf_22 : decode cX7_consignmentOf 22 = .ok (.bipush 9, 2) := by decide +kernel
theorem dX7_consignmentOf_24 : decode cX7_consignmentOf 24 = .ok (.if_icmp .ge 12, 3) := by decide +kernel
theorem dX7_consignmentOf_27 : decode cX7_consignmentOf 27 = .ok (.aload_n 0, 1) := by decide +kernel
theorem dX7_consignmentOf_28 : decode cX7_consignmentOf 28 = .ok (.iload_n 1, 1) := by decide +kernel
theorem dX7_consignmentOf_29 : decode cX7_consignmentOf 29 = .ok (.iload_n 2, 1) := by decide +kernel
theorem dX7_consignmentOf_30 : decode cX7_consignmentOf 30 = .ok (.invokevirtual 57, 3) := by decide +kernel
theorem dX7_consignmentOf_33 : decode cX7_consignmentOf 33 = .ok (.goto 49, 3) := by decide +kernel
theorem dX7_consignmentOf_36 : decode cX7_consignmentOf 36 = .ok (.iload_n 2, 1) := by decide +kernel
theorem dX7_consignmentOf_37 : decode cX7_consignmentOf 37 = .ok (.bipush 9, 2) := by decide +kernel
theorem dX7_consignmentOf_39 : decode cX7_consignmentOf 39 = .ok (.if_icmp .ne 11, 3) := by decide +kernel
theorem dX7_consignmentOf_42 : decode cX7_consignmentOf 42 = .ok (.aload_n 0, 1) := by decide +kernel
theorem dX7_consignmentOf_43 : decode cX7_consignmentOf 43 = .ok (.iload_n 1, 1) := by decide +kernel
theorem dX7_consignmentOf_44 : decode cX7_consignmentOf 44 = .ok (.invokevirtual 147, 3) := by decide +kernel
theorem dX7_consignmentOf_47 : decode cX7_consignmentOf 47 = .ok (.goto 35, 3) := by decide +kernel
theorem dX7_consignmentOf_50 : decode cX7_consignmentOf 50 = .ok (.aload_n 0, 1) := by decide +kernel
theorem dX7_consignmentOf_51 : decode cX7_consignmentOf 51 = .ok (.iload_n 1, 1) := by decide +kernel
theorem dX7_consignmentOf_52 : decode cX7_consignmentOf 52 = .ok (.invokevirtual 140, 3) := by decide +kernel
theorem dX7_consignmentOf_55 : decode cX7_consignmentOf 55 = .ok (.ifCond .eq 12, 3) := by decide +kernel
theorem dX7_consignmentOf_58 : decode cX7_consignmentOf 58 = .ok (.aload_n 0, 1) := by decide +kernel
theorem dX7_consignmentOf_59 : decode cX7_consignmentOf 59 = .ok (.getfield 7, 3) := by decide +kernel
theorem dX7_consignmentOf_62 : decode cX7_consignmentOf 62 = .ok (.iconst 5, 1) := by decide +kernel
theorem dX7_consignmentOf_63 : decode cX7_consignmentOf 63 = .ok (.iaload, 1) := by decide +kernel
theorem dX7_consignmentOf_64 : decode cX7_consignmentOf 64 = .ok (.goto 10, 3) := by decide +kernel
theorem dX7_consignmentOf_67 : decode cX7_consignmentOf 67 = .ok (.aload_n 0, 1) := by decide +kernel
theorem dX7_consignmentOf_68 : decode cX7_consignmentOf 68 = .ok (.iload_n 1, 1) := by decide +kernel
theorem dX7_consignmentOf_69 : decode cX7_consignmentOf 69 = .ok (.bipush 11, 2) := by decide +kernel
theorem dX7_consignmentOf_71 : decode cX7_consignmentOf 71 = .ok (.invokevirtual 57, 3) := by decide +kernel
theorem dX7_consignmentOf_74 : decode cX7_consignmentOf 74 = .ok (.aload_n 0, 1) := by decide +kernel
theorem dX7_consignmentOf_75 : decode cX7_consignmentOf 75 = .ok (.iload_n 1, 1) := by decide +kernel
theorem dX7_consignmentOf_76 : decode cX7_consignmentOf 76 = .ok (.bipush 10, 2) := by decide +kernel
theorem dX7_consignmentOf_78 : decode cX7_consignmentOf 78 = .ok (.invokevirtual 57, 3) := by decide +kernel
theorem dX7_consignmentOf_81 : decode cX7_consignmentOf 81 = .ok (.isub, 1) := by decide +kernel
theorem dX7_consignmentOf_82 : decode cX7_consignmentOf 82 = .ok (.ireturn, 1) := by decide +kernel
theorem dX7_vehicleOf_0 : decode cX7_vehicleOf 0 = .ok (.aload_n 0, 1) := by decide +kernel
theorem dX7_vehicleOf_1 : decode cX7_vehicleOf 1 = .ok (.iload_n 1, 1) := by decide +kernel
theorem dX7_vehicleOf_2 : decode cX7_vehicleOf 2 = .ok (.invokevirtual 101, 3) := by decide +kernel
theorem dX7_vehicleOf_5 : decode cX7_vehicleOf 5 = .ok (.ifCond .ne 6, 3) := by decide +kernel
theorem dX7_vehicleOf_8 : decode cX7_vehicleOf 8 = .ok (.ldc 74, 2) := by decide +kernel
theorem dX7_vehicleOf_10 : decode cX7_vehicleOf 10 = .ok (.ireturn, 1) := by decide +kernel
theorem dX7_vehicleOf_11 : decode cX7_vehicleOf 11 = .ok (.iload_n 2, 1) := by decide +kernel
theorem dX7_vehicleOf_12 : decode cX7_vehicleOf 12 = .ok (.tableswitch 126 0 9 #[56, 56, 56, 63, 70, 77, 83, 89, 110, 118], 56) := by decide +kernel
theorem dX7_vehicleOf_68 : decode cX7_vehicleOf 68 = .ok (.aload_n 0, 1) := by decide +kernel
theorem dX7_vehicleOf_69 : decode cX7_vehicleOf 69 = .ok (.iload_n 1, 1) := by decide +kernel
theorem dX7_vehicleOf_70 : decode cX7_vehicleOf 70 = .ok (.iload_n 2, 1) := by decide +kernel
theorem dX7_vehicleOf_71 : decode cX7_vehicleOf 71 = .ok (.invokevirtual 91, 3) := by decide +kernel
theorem dX7_vehicleOf_74 : decode cX7_vehicleOf 74 = .ok (.ireturn, 1) := by decide +kernel
theorem dX7_vehicleOf_75 : decode cX7_vehicleOf 75 = .ok (.aload_n 0, 1) := by decide +kernel
theorem dX7_vehicleOf_76 : decode cX7_vehicleOf 76 = .ok (.iload_n 1, 1) := by decide +kernel
theorem dX7_vehicleOf_77 : decode cX7_vehicleOf 77 = .ok (.iconst 1, 1) := by decide +kernel
theorem dX7_vehicleOf_78 : decode cX7_vehicleOf 78 = .ok (.invokevirtual 98, 3) := by decide +kernel
theorem dX7_vehicleOf_81 : decode cX7_vehicleOf 81 = .ok (.ireturn, 1) := by decide +kernel
theorem dX7_vehicleOf_82 : decode cX7_vehicleOf 82 = .ok (.aload_n 0, 1) := by decide +kernel
theorem dX7_vehicleOf_83 : decode cX7_vehicleOf 83 = .ok (.iload_n 1, 1) := by decide +kernel
theorem dX7_vehicleOf_84 : decode cX7_vehicleOf 84 = .ok (.iconst 2, 1) := by decide +kernel
theorem dX7_vehicleOf_85 : decode cX7_vehicleOf 85 = .ok (.invokevirtual 98, 3) := by decide +kernel
theorem dX7_vehicleOf_88 : decode cX7_vehicleOf 88 = .ok (.ireturn, 1) := by decide +kernel
theorem dX7_vehicleOf_89 : decode cX7_vehicleOf 89 = .ok (.aload_n 0, 1) := by decide +kernel
theorem dX7_vehicleOf_90 : decode cX7_vehicleOf 90 = .ok (.iload_n 1, 1) := by decide +kernel
theorem dX7_vehicleOf_91 : decode cX7_vehicleOf 91 = .ok (.invokevirtual 121, 3) := by decide +kernel
theorem dX7_vehicleOf_94 : decode cX7_vehicleOf 94 = .ok (.ireturn, 1) := by decide +kernel
theorem dX7_vehicleOf_95 : decode cX7_vehicleOf 95 = .ok (.aload_n 0, 1) := by decide +kernel
theorem dX7_vehicleOf_96 : decode cX7_vehicleOf 96 = .ok (.iload_n 1, 1) := by decide +kernel
theorem dX7_vehicleOf_97 : decode cX7_vehicleOf 97 = .ok (.invokevirtual 94, 3) := by decide +kernel
theorem dX7_vehicleOf_100 : decode cX7_vehicleOf 100 = .ok (.ireturn, 1) := by decide +kernel
theorem dX7_vehicleOf_101 : decode cX7_vehicleOf 101 = .ok (.aload_n 0, 1) := by decide +kernel
theorem dX7_vehicleOf_102 : decode cX7_vehicleOf 102 = .ok (.iload_n 1, 1) := by decide +kernel
theorem dX7_vehicleOf_103 : decode cX7_vehicleOf 103 = .ok (.iconst 2, 1) := by decide +kernel
theorem dX7_vehicleOf_104 : decode cX7_vehicleOf 104 = .ok (.invokevirtual 91, 3) := by decide +kernel
theorem dX7_vehicleOf_107 : decode cX7_vehicleOf 107 = .ok (.ifCond .ne 8, 3) := by decide +kernel
theorem dX7_vehicleOf_110 : decode cX7_vehicleOf 110 = .ok (.ldc 69, 2) := by decide +kernel
theorem dX7_vehicleOf_112 : decode cX7_vehicleOf 112 = .ok (.goto 9, 3) := by decide +kernel
theorem dX7_vehicleOf_115 : decode cX7_vehicleOf 115 = .ok (.aload_n 0, 1) := by decide +kernel
theorem dX7_vehicleOf_116 : decode cX7_vehicleOf 116 = .ok (.iload_n 1, 1) := by decide +kernel
theorem dX7_vehicleOf_117 : decode cX7_vehicleOf 117 = .ok (.iconst 4, 1) := by decide +kernel
theorem dX7_vehicleOf_118 : decode cX7_vehicleOf 118 = .ok (.invokevirtual 91, 3) := by decide +kernel
theorem dX7_vehicleOf_121 : decode cX7_vehicleOf 121 = .ok (.ireturn, 1) := by decide +kernel
theorem dX7_vehicleOf_122 : decode cX7_vehicleOf 122 = .ok (.aload_n 0, 1) := by decide +kernel
theorem dX7_vehicleOf_123 : decode cX7_vehicleOf 123 = .ok (.iload_n 1, 1) := by decide +kernel
theorem dX7_vehicleOf_124 : decode cX7_vehicleOf 124 = .ok (.bipush 6, 2) := by decide +kernel
theorem dX7_vehicleOf_126 : decode cX7_vehicleOf 126 = .ok (.invokevirtual 91, 3) := by decide +kernel
theorem dX7_vehicleOf_129 : decode cX7_vehicleOf 129 = .ok (.ireturn, 1) := by decide +kernel
theorem dX7_vehicleOf_130 : decode cX7_vehicleOf 130 = .ok (.aload_n 0, 1) := by decide +kernel
theorem dX7_vehicleOf_131 : decode cX7_vehicleOf 131 = .ok (.iload_n 1, 1) := by decide +kernel
theorem dX7_vehicleOf_132 : decode cX7_vehicleOf 132 = .ok (.bipush 7, 2) := by decide +kernel
theorem dX7_vehicleOf_134 : decode cX7_vehicleOf 134 = .ok (.invokevirtual 91, 3) := by decide +kernel
theorem dX7_vehicleOf_137 : decode cX7_vehicleOf 137 = .ok (.ireturn, 1) := by decide +kernel
theorem dX7_vehicleOf_138 : decode cX7_vehicleOf 138 = .ok (.ldc 74, 2) := by decide +kernel
theorem dX7_vehicleOf_140 : decode cX7_vehicleOf 140 = .ok (.ireturn, 1) := by decide +kernel
theorem dX7_offerOf_0 : decode cX7_offerOf 0 = .ok (.iload_n 1, 1) := by decide +kernel
theorem dX7_offerOf_1 : decode cX7_offerOf 1 = .ok (.ifCond .lt 12, 3) := by decide +kernel
theorem dX7_offerOf_4 : decode cX7_offerOf 4 = .ok (.iload_n 2, 1) := by decide +kernel
theorem dX7_offerOf_5 : decode cX7_offerOf 5 = .ok (.iconst 0, 1) := by decide +kernel
theorem dX7_offerOf_6 : decode cX7_offerOf 6 = .ok (.iconst 4, 1) := by decide +kernel
theorem dX7_offerOf_7 : decode cX7_offerOf 7 = .ok (.invokestatic 70, 3) := by decide +kernel
theorem dX7_offerOf_10 : decode cX7_offerOf 10 = .ok (.ifCond .ne 6, 3) := by decide +kernel
theorem dX7_offerOf_13 : decode cX7_offerOf 13 = .ok (.ldc 74, 2) := by decide +kernel
theorem dX7_offerOf_15 : decode cX7_offerOf 15 = .ok (.ireturn, 1) := by decide +kernel
theorem dX7_offerOf_16 : decode cX7_offerOf 16 = .ok (.iload_n 1, 1) := by decide +kernel
theorem dX7_offerOf_17 : decode cX7_offerOf 17 = .ok (.aload_n 0, 1) := by decide +kernel
theorem dX7_offerOf_18 : decode cX7_offerOf 18 = .ok (.getfield 7, 3) := by decide +kernel
theorem dX7_offerOf_21 : decode cX7_offerOf 21 = .ok (.bipush 6, 2) := by decide +kernel
theorem dX7_offerOf_23 : decode cX7_offerOf 23 = .ok (.iaload, 1) := by decide +kernel
theorem dX7_offerOf_24 : decode cX7_offerOf 24 = .ok (.if_icmp .lt 8, 3) := by decide +kernel
theorem dX7_offerOf_27 : decode cX7_offerOf 27 = .ok (.ldc 69, 2) := by decide +kernel
theorem dX7_offerOf_29 : decode cX7_offerOf 29 = .ok (.goto 9, 3) := by decide +kernel
theorem dX7_offerOf_32 : decode cX7_offerOf 32 = .ok (.aload_n 0, 1) := by decide +kernel
theorem dX7_offerOf_33 : decode cX7_offerOf 33 = .ok (.iload_n 1, 1) := by decide +kernel
theorem dX7_offerOf_34 : decode cX7_offerOf 34 = .ok (.iload_n 2, 1) := by decide +kernel
theorem dX7_offerOf_35 : decode cX7_offerOf 35 = .ok (.invokevirtual 124, 3) := by decide +kernel
theorem dX7_offerOf_38 : decode cX7_offerOf 38 = .ok (.ireturn, 1) := by decide +kernel
theorem dX7_here_0 : decode cX7_here 0 = .ok (.iconst 0, 1) := by decide +kernel
theorem dX7_here_1 : decode cX7_here 1 = .ok (.istore_n 1, 1) := by decide +kernel
theorem dX7_here_2 : decode cX7_here 2 = .ok (.iconst 0, 1) := by decide +kernel
theorem dX7_here_3 : decode cX7_here 3 = .ok (.istore_n 2, 1) := by decide +kernel
theorem dX7_here_4 : decode cX7_here 4 = .ok (.iload_n 2, 1) := by decide +kernel
theorem dX7_here_5 : decode cX7_here 5 = .ok (.aload_n 0, 1) := by decide +kernel
theorem dX7_here_6 : decode cX7_here 6 = .ok (.getfield 7, 3) := by decide +kernel
theorem dX7_here_9 : decode cX7_here 9 = .ok (.iconst 3, 1) := by decide +kernel
theorem dX7_here_10 : decode cX7_here 10 = .ok (.iaload, 1) := by decide +kernel
theorem dX7_here_11 : decode cX7_here 11 = .ok (.if_icmp .ge 27, 3) := by decide +kernel
theorem dX7_here_14 : decode cX7_here 14 = .ok (.iload_n 1, 1) := by decide +kernel
theorem dX7_here_15 : decode cX7_here 15 = .ok (.aload_n 0, 1) := by decide +kernel
theorem dX7_here_16 : decode cX7_here 16 = .ok (.iload_n 2, 1) := by decide +kernel
theorem dX7_here_17 : decode cX7_here 17 = .ok (.invokevirtual 140, 3) := by decide +kernel
theorem dX7_here_20 : decode cX7_here 20 = .ok (.ifCond .eq 9, 3) := by decide +kernel
theorem dX7_here_23 : decode cX7_here 23 = .ok (.iconst 1, 1) := by decide +kernel
theorem dX7_here_24 : decode cX7_here 24 = .ok (.iload_n 2, 1) := by decide +kernel
theorem dX7_here_25 : decode cX7_here 25 = .ok (.ishl, 1) := by decide +kernel
theorem dX7_here_26 : decode cX7_here 26 = .ok (.goto 4, 3) := by decide +kernel
theorem dX7_here_29 : decode cX7_here 29 = .ok (.iconst 0, 1) := by decide +kernel
theorem dX7_here_30 : decode cX7_here 30 = .ok (.ior, 1) := by decide +kernel
theorem dX7_here_31 : decode cX7_here 31 = .ok (.istore_n 1, 1) := by decide +kernel
theorem dX7_here_32 : decode cX7_here 32 = .ok (.iinc 2 1, 3) := by decide +kernel
theorem dX7_here_35 : decode cX7_here 35 = .ok (.goto (-31), 3) := by decide +kernel
theorem dX7_here_38 : decode cX7_here 38 = .ok (.iload_n 1, 1) := by decide +kernel
theorem dX7_here_39 : decode cX7_here 39 = .ok (.ireturn, 1) := by decide +kernel
theorem dX7_count_0 : decode cX7_count 0 = .ok (.iload_n 1, 1) := by decide +kernel
theorem dX7_count_1 : decode cX7_count 1 = .ok (.tableswitch 111 0 12 #[67, 67, 67, 76, 81, 81, 81, 81, 81, 81, 93, 101, 106], 67) := by decide +kernel
theorem dX7_count_68 : decode cX7_count 68 = .ok (.aload_n 0, 1) := by decide +kernel
theorem dX7_count_69 : decode cX7_count 69 = .ok (.getfield 7, 3) := by decide +kernel
theorem dX7_count_72 : decode cX7_count 72 = .ok (.iconst 3, 1) := by decide +kernel
theorem dX7_count_73 : decode cX7_count 73 = .ok (.iload_n 1, 1) := by decide +kernel
theorem dX7_count_74 : decode cX7_count 74 = .ok (.iadd, 1) := by decide +kernel
theorem dX7_count_75 : decode cX7_count 75 = .ok (.iaload, 1) := by decide +kernel
theorem dX7_count_76 : decode cX7_count 76 = .ok (.ireturn, 1) := by decide +kernel
theorem dX7_count_77 : decode cX7_count 77 = .ok (.aload_n 0, 1) := by decide +kernel
theorem dX7_count_78 : decode cX7_count 78 = .ok (.invokevirtual 150, 3) := by decide +kernel
theorem dX7_count_81 : decode cX7_count 81 = .ok (.ireturn, 1) := by decide +kernel
theorem dX7_count_82 : decode cX7_count 82 = .ok (.aload_n 0, 1) := by decide +kernel
theorem dX7_count_83 : decode cX7_count 83 = .ok (.getfield 7, 3) := by decide +kernel
theorem dX7_count_86 : decode cX7_count 86 = .ok (.bipush 7, 2) := by decide +kernel
theorem dX7_count_88 : decode cX7_count 88 = .ok (.iload_n 1, 1) := by decide +kernel
theorem dX7_count_89 : decode cX7_count 89 = .ok (.iadd, 1) := by decide +kernel
theorem dX7_count_90 : decode cX7_count 90 = .ok (.iconst 4, 1) := by decide +kernel
theorem dX7_count_91 : decode cX7_count 91 = .ok (.isub, 1) := by decide +kernel
theorem dX7_count_92 : decode cX7_count 92 = .ok (.iaload, 1) := by decide +kernel
theorem dX7_count_93 : decode cX7_count 93 = .ok (.ireturn, 1) := by decide +kernel
theorem dX7_count_94 : decode cX7_count 94 = .ok (.aload_n 0, 1) := by decide +kernel
theorem dX7_count_95 : decode cX7_count 95 = .ok (.getfield 7, 3) := by decide +kernel
theorem dX7_count_98 : decode cX7_count 98 = .ok (.bipush 6, 2) := by decide +kernel
theorem dX7_count_100 : decode cX7_count 100 = .ok (.iaload, 1) := by decide +kernel
theorem dX7_count_101 : decode cX7_count 101 = .ok (.ireturn, 1) := by decide +kernel
theorem dX7_count_102 : decode cX7_count 102 = .ok (.aload_n 0, 1) := by decide +kernel
theorem dX7_count_103 : decode cX7_count 103 = .ok (.getfield 53, 3) := by decide +kernel
theorem dX7_count_106 : decode cX7_count 106 = .ok (.ireturn, 1) := by decide +kernel
theorem dX7_count_107 : decode cX7_count 107 = .ok (.aload_n 0, 1) := by decide +kernel
theorem dX7_count_108 : decode cX7_count 108 = .ok (.getfield 153, 3) := by decide +kernel
theorem dX7_count_111 : decode cX7_count 111 = .ok (.ireturn, 1) := by decide +kernel
theorem dX7_count_112 : decode cX7_count 112 = .ok (.iload_n 1, 1) := by decide +kernel
theorem dX7_count_113 : decode cX7_count 113 = .ok (.bipush 20, 2) := by decide +kernel
theorem dX7_count_115 : decode cX7_count 115 = .ok (.bipush 22, 2) := by decide +kernel
theorem dX7_count_117 : decode cX7_count 117 = .ok (.invokestatic 70, 3) := by decide +kernel
theorem dX7_count_120 : decode cX7_count 120 = .ok (.ifCond .eq 15, 3) := by decide +kernel
theorem dX7_count_123 : decode cX7_count 123 = .ok (.aload_n 0, 1) := by decide +kernel
theorem dX7_count_124 : decode cX7_count 124 = .ok (.getfield 7, 3) := by decide +kernel
theorem dX7_count_127 : decode cX7_count 127 = .ok (.iload_n 1, 1) := by decide +kernel
theorem dX7_count_128 : decode cX7_count 128 = .ok (.bipush 20, 2) := by decide +kernel
theorem dX7_count_130 : decode cX7_count 130 = .ok (.isub, 1) := by decide +kernel
theorem dX7_count_131 : decode cX7_count 131 = .ok (.iaload, 1) := by decide +kernel
theorem dX7_count_132 : decode cX7_count 132 = .ok (.goto 5, 3) := by decide +kernel
theorem dX7_count_135 : decode cX7_count 135 = .ok (.ldc 74, 2) := by decide +kernel
theorem dX7_count_137 : decode cX7_count 137 = .ok (.ireturn, 1) := by decide +kernel
theorem dX7_wouldFill_0 : decode cX7_wouldFill 0 = .ok (.aload_n 0, 1) := by decide +kernel
theorem dX7_wouldFill_1 : decode cX7_wouldFill 1 = .ok (.iload_n 1, 1) := by decide +kernel
theorem dX7_wouldFill_2 : decode cX7_wouldFill 2 = .ok (.invokevirtual 101, 3) := by decide +kernel
theorem dX7_wouldFill_5 : decode cX7_wouldFill 5 = .ok (.ifCond .eq 21, 3) := by decide +kernel
theorem dX7_wouldFill_8 : decode cX7_wouldFill 8 = .ok (.iload_n 2, 1) := by decide +kernel
theorem dX7_wouldFill_9 : decode cX7_wouldFill 9 = .ok (.iconst 1, 1) := by decide +kernel
theorem dX7_wouldFill_10 : decode cX7_wouldFill 10 = .ok (.iconst 4, 1) := by decide +kernel
theorem dX7_wouldFill_11 : decode cX7_wouldFill 11 = .ok (.invokestatic 70, 3) := by decide +kernel
theorem dX7_wouldFill_14 : decode cX7_wouldFill 14 = .ok (.ifCond .eq 12, 3) := by decide +kernel
theorem dX7_wouldFill_17 : decode cX7_wouldFill 17 = .ok (.iload_n 3, 1) := by decide +kernel
theorem dX7_wouldFill_18 : decode cX7_wouldFill 18 = .ok (.iconst 0, 1) := by decide +kernel
theorem dX7_wouldFill_19 : decode cX7_wouldFill 19 = .ok (.iconst 2, 1) := by decide +kernel
theorem dX7_wouldFill_20 : decode cX7_wouldFill 20 = .ok (.invokestatic 70, 3) := by decide +kernel
theorem dX7_wouldFill_23 : decode cX7_wouldFill 23 = .ok (.ifCond .ne 6, 3) := by decide +kernel
theorem dX7_wouldFill_26 : decode cX7_wouldFill 26 = .ok (.ldc 74, 2) := by decide +kernel
theorem dX7_wouldFill_28 : decode cX7_wouldFill 28 = .ok (.ireturn, 1) := by decide +kernel
theorem dX7_wouldFill_29 : decode cX7_wouldFill 29 = .ok (.aload_n 0, 1) := by decide +kernel
theorem dX7_wouldFill_30 : decode cX7_wouldFill 30 = .ok (.iload_n 1, 1) := by decide +kernel
theorem dX7_wouldFill_31 : decode cX7_wouldFill 31 = .ok (.iconst 2, 1) := by decide +kernel
theorem dX7_wouldFill_32 : decode cX7_wouldFill 32 = .ok (.invokevirtual 91, 3) := by decide +kernel
theorem dX7_wouldFill_35 : decode cX7_wouldFill 35 = .ok (.ifCond .le 6, 3) := by decide +kernel
theorem dX7_wouldFill_38 : decode cX7_wouldFill 38 = .ok (.ldc 83, 2) := by decide +kernel
theorem dX7_wouldFill_40 : decode cX7_wouldFill 40 = .ok (.ireturn, 1) := by decide +kernel
theorem dX7_wouldFill_41 : decode cX7_wouldFill 41 = .ok (.aload_n 0, 1) := by decide +kernel
theorem dX7_wouldFill_42 : decode cX7_wouldFill 42 = .ok (.getfield 7, 3) := by decide +kernel
theorem dX7_wouldFill_45 : decode cX7_wouldFill 45 = .ok (.aload_n 0, 1) := by decide +kernel
theorem dX7_wouldFill_46 : decode cX7_wouldFill 46 = .ok (.getfield 19, 3) := by decide +kernel
theorem dX7_wouldFill_49 : decode cX7_wouldFill 49 = .ok (.invokestatic 156, 3) := by decide +kernel
theorem dX7_wouldFill_52 : decode cX7_wouldFill 52 = .ok (.aload_n 0, 1) := by decide +kernel
theorem dX7_wouldFill_53 : decode cX7_wouldFill 53 = .ok (.iload_n 1, 1) := by decide +kernel
theorem dX7_wouldFill_54 : decode cX7_wouldFill 54 = .ok (.iload_n 2, 1) := by decide +kernel
theorem dX7_wouldFill_55 : decode cX7_wouldFill 55 = .ok (.iload_n 3, 1) := by decide +kernel
theorem dX7_wouldFill_56 : decode cX7_wouldFill 56 = .ok (.invokevirtual 114, 3) := by decide +kernel
theorem dX7_wouldFill_59 : decode cX7_wouldFill 59 = .ok (.istore 4, 2) := by decide +kernel
theorem dX7_wouldFill_61 : decode cX7_wouldFill 61 = .ok (.aload_n 0, 1) := by decide +kernel
theorem dX7_wouldFill_62 : decode cX7_wouldFill 62 = .ok (.getfield 19, 3) := by decide +kernel
theorem dX7_wouldFill_65 : decode cX7_wouldFill 65 = .ok (.aload_n 0, 1) := by decide +kernel
theorem dX7_wouldFill_66 : decode cX7_wouldFill 66 = .ok (.getfield 7, 3) := by decide +kernel
theorem dX7_wouldFill_69 : decode cX7_wouldFill 69 = .ok (.invokestatic 156, 3) := by decide +kernel
theorem dX7_wouldFill_72 : decode cX7_wouldFill 72 = .ok (.iload 4, 2) := by decide +kernel
theorem dX7_wouldFill_74 : decode cX7_wouldFill 74 = .ok (.ireturn, 1) := by decide +kernel
theorem dX7_wouldEarn_0 : decode cX7_wouldEarn 0 = .ok (.aload_n 0, 1) := by decide +kernel
theorem dX7_wouldEarn_1 : decode cX7_wouldEarn 1 = .ok (.iload_n 1, 1) := by decide +kernel
theorem dX7_wouldEarn_2 : decode cX7_wouldEarn 2 = .ok (.invokevirtual 101, 3) := by decide +kernel
theorem dX7_wouldEarn_5 : decode cX7_wouldEarn 5 = .ok (.ifCond .ne 6, 3) := by decide +kernel
theorem dX7_wouldEarn_8 : decode cX7_wouldEarn 8 = .ok (.ldc 74, 2) := by decide +kernel
theorem dX7_wouldEarn_10 : decode cX7_wouldEarn 10 = .ok (.ireturn, 1) := by decide +kernel
theorem dX7_wouldEarn_11 : decode cX7_wouldEarn 11 = .ok (.aload_n 0, 1) := by decide +kernel
theorem dX7_wouldEarn_12 : decode cX7_wouldEarn 12 = .ok (.iload_n 1, 1) := by decide +kernel
theorem dX7_wouldEarn_13 : decode cX7_wouldEarn 13 = .ok (.iconst 2, 1) := by decide +kernel
theorem dX7_wouldEarn_14 : decode cX7_wouldEarn 14 = .ok (.invokevirtual 91, 3) := by decide +kernel
theorem dX7_wouldEarn_17 : decode cX7_wouldEarn 17 = .ok (.ifCond .gt 11, 3) := by decide +kernel
theorem dX7_wouldEarn_20 : decode cX7_wouldEarn 20 = .ok (.aload_n 0, 1) := by decide +kernel
theorem dX7_wouldEarn_21 : decode cX7_wouldEarn 21 = .ok (.iload_n 1, 1) := by decide +kernel
theorem dX7_wouldEarn_22 : decode cX7_wouldEarn 22 = .ok (.invokevirtual 121, 3) := by decide +kernel
theorem dX7_wouldEarn_25 : decode cX7_wouldEarn 25 = .ok (.ifCond .ne 6, 3) := by decide +kernel
theorem dX7_wouldEarn_28 : decode cX7_wouldEarn 28 = .ok (.ldc 83, 2) := by decide +kernel
theorem dX7_wouldEarn_30 : decode cX7_wouldEarn 30 = .ok (.ireturn, 1) := by decide +kernel
theorem dX7_wouldEarn_31 : decode cX7_wouldEarn 31 = .ok (.aload_n 0, 1) := by decide +kernel
theorem dX7_wouldEarn_32 : decode cX7_wouldEarn 32 = .ok (.iload_n 1, 1) := by decide +kernel
theorem dX7_wouldEarn_33 : decode cX7_wouldEarn 33 = .ok (.invokevirtual 94, 3) := by decide +kernel
theorem dX7_wouldEarn_36 : decode cX7_wouldEarn 36 = .ok (.istore_n 2, 1) := by decide +kernel
theorem dX7_wouldEarn_37 : decode cX7_wouldEarn 37 = .ok (.aload_n 0, 1) := by decide +kernel
theorem dX7_wouldEarn_38 : decode cX7_wouldEarn 38 = .ok (.getfield 7, 3) := by decide +kernel
theorem dX7_wouldEarn_41 : decode cX7_wouldEarn 41 = .ok (.iconst 5, 1) := by decide +kernel
theorem dX7_wouldEarn_42 : decode cX7_wouldEarn 42 = .ok (.iaload, 1) := by decide +kernel
theorem dX7_wouldEarn_43 : decode cX7_wouldEarn 43 = .ok (.iload_n 2, 1) := by decide +kernel
theorem dX7_wouldEarn_44 : decode cX7_wouldEarn 44 = .ok (.aload_n 0, 1) := by decide +kernel
theorem dX7_wouldEarn_45 : decode cX7_wouldEarn 45 = .ok (.getfield 7, 3) := by decide +kernel
theorem dX7_wouldEarn_48 : decode cX7_wouldEarn 48 = .ok (.iconst 0, 1) := by decide +kernel
theorem dX7_wouldEarn_49 : decode cX7_wouldEarn 49 = .ok (.iaload, 1) := by decide +kernel
theorem dX7_wouldEarn_50 : decode cX7_wouldEarn 50 = .ok (.imul, 1) := by decide +kernel
theorem dX7_wouldEarn_51 : decode cX7_wouldEarn 51 = .ok (.iadd, 1) := by decide +kernel
theorem dX7_wouldEarn_52 : decode cX7_wouldEarn 52 = .ok (.istore_n 3, 1) := by decide +kernel
theorem dX7_wouldEarn_53 : decode cX7_wouldEarn 53 = .ok (.iconst 0, 1) := by decide +kernel
theorem dX7_wouldEarn_54 : decode cX7_wouldEarn 54 = .ok (.istore 4, 2) := by decide +kernel
theorem dX7_wouldEarn_56 : decode cX7_wouldEarn 56 = .ok (.iconst 0, 1) := by decide +kernel
theorem dX7_wouldEarn_57 : decode cX7_wouldEarn 57 = .ok (.istore 5, 2) := by decide +kernel
theorem dX7_wouldEarn_59 : decode cX7_wouldEarn 59 = .ok (.iload 5, 2) := by decide +kernel
theorem dX7_wouldEarn_61 : decode cX7_wouldEarn 61 = .ok (.aload_n 0, 1) := by decide +kernel
theorem dX7_wouldEarn_62 : decode cX7_wouldEarn 62 = .ok (.getfield 7, 3) := by decide +kernel
theorem dX7_wouldEarn_65 : decode cX7_wouldEarn 65 = .ok (.iconst 3, 1) := by decide +kernel
theorem dX7_wouldEarn_66 : decode cX7_wouldEarn 66 = .ok (.iaload, 1) := by decide +kernel
theorem dX7_wouldEarn_67 : decode cX7_wouldEarn 67 = .ok (.if_icmp .ge 82, 3) := by decide +kernel
theorem dX7_wouldEarn_70 : decode cX7_wouldEarn 70 = .ok (.aload_n 0, 1) := by decide +kernel
theorem dX7_wouldEarn_71 : decode cX7_wouldEarn 71 = .ok (.iload 5, 2) := by decide +kernel
theorem dX7_wouldEarn_73 : decode cX7_wouldEarn 73 = .ok (.iload_n 1, 1) := by decide +kernel
theorem dX7_wouldEarn_74 : decode cX7_wouldEarn 74 = .ok (.invokevirtual 87, 3) := by decide +kernel
theorem dX7_wouldEarn_77 : decode cX7_wouldEarn 77 = .ok (.ifCond .eq 66, 3) := by decide +kernel
theorem dX7_wouldEarn_80 : decode cX7_wouldEarn 80 = .ok (.iload 4, 2) := by decide +kernel
theorem dX7_wouldEarn_82 : decode cX7_wouldEarn 82 = .ok (.iload_n 3, 1) := by decide +kernel
theorem dX7_wouldEarn_83 : decode cX7_wouldEarn 83 = .ok (.aload_n 0, 1) := by decide +kernel
theorem dX7_wouldEarn_84 : decode cX7_wouldEarn 84 = .ok (.iload 5, 2) := by decide +kernel
theorem dX7_wouldEarn_86 : decode cX7_wouldEarn 86 = .ok (.iconst 4, 1) := by decide +kernel
theorem dX7_wouldEarn_87 : decode cX7_wouldEarn 87 = .ok (.invokevirtual 57, 3) := by decide +kernel
theorem dX7_wouldEarn_90 : decode cX7_wouldEarn 90 = .ok (.if_icmp .le 7, 3) := by decide +kernel
theorem dX7_wouldEarn_93 : decode cX7_wouldEarn 93 = .ok (.iconst 0, 1) := by decide +kernel
theorem dX7_wouldEarn_94 : decode cX7_wouldEarn 94 = .ok (.goto 10, 3) := by decide +kernel
theorem dX7_wouldEarn_97 : decode cX7_wouldEarn 97 = .ok (.aload_n 0, 1) := by decide +kernel
theorem dX7_wouldEarn_98 : decode cX7_wouldEarn 98 = .ok (.iload 5, 2) := by decide +kernel
theorem dX7_wouldEarn_100 : decode cX7_wouldEarn 100 = .ok (.iconst 5, 1) := by decide +kernel
theorem dX7_wouldEarn_101 : decode cX7_wouldEarn 101 = .ok (.invokevirtual 57, 3) := by decide +kernel
theorem dX7_wouldEarn_104 : decode cX7_wouldEarn 104 = .ok (.iadd, 1) := by decide +kernel
theorem dX7_wouldEarn_105 : decode cX7_wouldEarn 105 = .ok (.istore 4, 2) := by decide +kernel
theorem dX7_wouldEarn_107 : decode cX7_wouldEarn 107 = .ok (.iload 4, 2) := by decide +kernel
theorem dX7_wouldEarn_109 : decode cX7_wouldEarn 109 = .ok (.aload_n 0, 1) := by decide +kernel
theorem dX7_wouldEarn_110 : decode cX7_wouldEarn 110 = .ok (.iload 5, 2) := by decide +kernel
theorem dX7_wouldEarn_112 : decode cX7_wouldEarn 112 = .ok (.iconst 3, 1) := by decide +kernel
theorem dX7_wouldEarn_113 : decode cX7_wouldEarn 113 = .ok (.invokevirtual 57, 3) := by decide +kernel
theorem dX7_wouldEarn_116 : decode cX7_wouldEarn 116 = .ok (.iload_n 3, 1) := by decide +kernel
theorem dX7_wouldEarn_117 : decode cX7_wouldEarn 117 = .ok (.if_icmp .le 22, 3) := by decide +kernel
theorem dX7_wouldEarn_120 : decode cX7_wouldEarn 120 = .ok (.aload_n 0, 1) := by decide +kernel
theorem dX7_wouldEarn_121 : decode cX7_wouldEarn 121 = .ok (.iload 5, 2) := by decide +kernel
theorem dX7_wouldEarn_123 : decode cX7_wouldEarn 123 = .ok (.iconst 3, 1) := by decide +kernel
theorem dX7_wouldEarn_124 : decode cX7_wouldEarn 124 = .ok (.invokevirtual 57, 3) := by decide +kernel
theorem dX7_wouldEarn_127 : decode cX7_wouldEarn 127 = .ok (.iload_n 3, 1) := by decide +kernel
theorem dX7_wouldEarn_128 : decode cX7_wouldEarn 128 = .ok (.isub, 1) := by decide +kernel
theorem dX7_wouldEarn_129 : decode cX7_wouldEarn 129 = .ok (.aload_n 0, 1) := by decide +kernel
theorem dX7_wouldEarn_130 : decode cX7_wouldEarn 130 = .ok (.getfield 7, 3) := by decide +kernel
theorem dX7_wouldEarn_133 : decode cX7_wouldEarn 133 = .ok (.iconst 2, 1) := by decide +kernel
theorem dX7_wouldEarn_134 : decode cX7_wouldEarn 134 = .ok (.iaload, 1) := by decide +kernel
theorem dX7_wouldEarn_135 : decode cX7_wouldEarn 135 = .ok (.imul, 1) := by decide +kernel
theorem dX7_wouldEarn_136 : decode cX7_wouldEarn 136 = .ok (.goto 4, 3) := by decide +kernel
theorem dX7_wouldEarn_139 : decode cX7_wouldEarn 139 = .ok (.iconst 0, 1) := by decide +kernel
theorem dX7_wouldEarn_140 : decode cX7_wouldEarn 140 = .ok (.isub, 1) := by decide +kernel
theorem dX7_wouldEarn_141 : decode cX7_wouldEarn 141 = .ok (.istore 4, 2) := by decide +kernel
theorem dX7_wouldEarn_143 : decode cX7_wouldEarn 143 = .ok (.iinc 5 1, 3) := by decide +kernel
theorem dX7_wouldEarn_146 : decode cX7_wouldEarn 146 = .ok (.goto (-87), 3) := by decide +kernel
theorem dX7_wouldEarn_149 : decode cX7_wouldEarn 149 = .ok (.aload_n 0, 1) := by decide +kernel
theorem dX7_wouldEarn_150 : decode cX7_wouldEarn 150 = .ok (.getfield 7, 3) := by decide +kernel
theorem dX7_wouldEarn_153 : decode cX7_wouldEarn 153 = .ok (.aload_n 0, 1) := by decide +kernel
theorem dX7_wouldEarn_154 : decode cX7_wouldEarn 154 = .ok (.getfield 19, 3) := by decide +kernel
theorem dX7_wouldEarn_157 : decode cX7_wouldEarn 157 = .ok (.invokestatic 156, 3) := by decide +kernel
theorem dX7_wouldEarn_160 : decode cX7_wouldEarn 160 = .ok (.iload 4, 2) := by decide +kernel
theorem dX7_wouldEarn_162 : decode cX7_wouldEarn 162 = .ok (.aload_n 0, 1) := by decide +kernel
theorem dX7_wouldEarn_163 : decode cX7_wouldEarn 163 = .ok (.iload_n 1, 1) := by decide +kernel
theorem dX7_wouldEarn_164 : decode cX7_wouldEarn 164 = .ok (.iload_n 2, 1) := by decide +kernel
theorem dX7_wouldEarn_165 : decode cX7_wouldEarn 165 = .ok (.iload_n 3, 1) := by decide +kernel
theorem dX7_wouldEarn_166 : decode cX7_wouldEarn 166 = .ok (.invokevirtual 131, 3) := by decide +kernel
theorem dX7_wouldEarn_169 : decode cX7_wouldEarn 169 = .ok (.iadd, 1) := by decide +kernel
theorem dX7_wouldEarn_170 : decode cX7_wouldEarn 170 = .ok (.istore 4, 2) := by decide +kernel
theorem dX7_wouldEarn_172 : decode cX7_wouldEarn 172 = .ok (.aload_n 0, 1) := by decide +kernel
theorem dX7_wouldEarn_173 : decode cX7_wouldEarn 173 = .ok (.getfield 19, 3) := by decide +kernel
theorem dX7_wouldEarn_176 : decode cX7_wouldEarn 176 = .ok (.aload_n 0, 1) := by decide +kernel
theorem dX7_wouldEarn_177 : decode cX7_wouldEarn 177 = .ok (.getfield 7, 3) := by decide +kernel
theorem dX7_wouldEarn_180 : decode cX7_wouldEarn 180 = .ok (.invokestatic 156, 3) := by decide +kernel
theorem dX7_wouldEarn_183 : decode cX7_wouldEarn 183 = .ok (.iload 4, 2) := by decide +kernel
theorem dX7_wouldEarn_185 : decode cX7_wouldEarn 185 = .ok (.ldc 160, 2) := by decide +kernel
theorem dX7_wouldEarn_187 : decode cX7_wouldEarn 187 = .ok (.iadd, 1) := by decide +kernel
theorem dX7_wouldEarn_188 : decode cX7_wouldEarn 188 = .ok (.ireturn, 1) := by decide +kernel
theorem dX7_hopeless_0 : decode cX7_hopeless 0 = .ok (.iconst 0, 1) := by decide +kernel
theorem dX7_hopeless_1 : decode cX7_hopeless 1 = .ok (.istore_n 1, 1) := by decide +kernel
theorem dX7_hopeless_2 : decode cX7_hopeless 2 = .ok (.iconst 0, 1) := by decide +kernel
theorem dX7_hopeless_3 : decode cX7_hopeless 3 = .ok (.istore_n 2, 1) := by decide +kernel
theorem dX7_hopeless_4 : decode cX7_hopeless 4 = .ok (.iload_n 2, 1) := by decide +kernel
theorem dX7_hopeless_5 : decode cX7_hopeless 5 = .ok (.aload_n 0, 1) := by decide +kernel
theorem dX7_hopeless_6 : decode cX7_hopeless 6 = .ok (.getfield 7, 3) := by decide +kernel
theorem dX7_hopeless_9 : decode cX7_hopeless 9 = .ok (.iconst 3, 1) := by decide +kernel
theorem dX7_hopeless_10 : decode cX7_hopeless 10 = .ok (.iaload, 1) := by decide +kernel
theorem dX7_hopeless_11 : decode cX7_hopeless 11 = .ok (.if_icmp .ge 56, 3) := by decide +kernel
theorem dX7_hopeless_14 : decode cX7_hopeless 14 = .ok (.iload_n 1, 1) := by decide +kernel
theorem dX7_hopeless_15 : decode cX7_hopeless 15 = .ok (.aload_n 0, 1) := by decide +kernel
theorem dX7_hopeless_16 : decode cX7_hopeless 16 = .ok (.iload_n 2, 1) := by decide +kernel
theorem dX7_hopeless_17 : decode cX7_hopeless 17 = .ok (.invokevirtual 140, 3) := by decide +kernel
theorem dX7_hopeless_20 : decode cX7_hopeless 20 = .ok (.ifCond .eq 38, 3) := by decide +kernel
theorem dX7_hopeless_23 : decode cX7_hopeless 23 = .ok (.aload_n 0, 1) := by decide +kernel
theorem dX7_hopeless_24 : decode cX7_hopeless 24 = .ok (.getfield 7, 3) := by decide +kernel
theorem dX7_hopeless_27 : decode cX7_hopeless 27 = .ok (.iconst 5, 1) := by decide +kernel
theorem dX7_hopeless_28 : decode cX7_hopeless 28 = .ok (.iaload, 1) := by decide +kernel
theorem dX7_hopeless_29 : decode cX7_hopeless 29 = .ok (.aload_n 0, 1) := by decide +kernel
theorem dX7_hopeless_30 : decode cX7_hopeless 30 = .ok (.iload_n 2, 1) := by decide +kernel
theorem dX7_hopeless_31 : decode cX7_hopeless 31 = .ok (.iconst 0, 1) := by decide +kernel
theorem dX7_hopeless_32 : decode cX7_hopeless 32 = .ok (.invokevirtual 57, 3) := by decide +kernel
theorem dX7_hopeless_35 : decode cX7_hopeless 35 = .ok (.aload_n 0, 1) := by decide +kernel
theorem dX7_hopeless_36 : decode cX7_hopeless 36 = .ok (.getfield 7, 3) := by decide +kernel
theorem dX7_hopeless_39 : decode cX7_hopeless 39 = .ok (.iconst 0, 1) := by decide +kernel
theorem dX7_hopeless_40 : decode cX7_hopeless 40 = .ok (.iaload, 1) := by decide +kernel
theorem dX7_hopeless_41 : decode cX7_hopeless 41 = .ok (.imul, 1) := by decide +kernel
theorem dX7_hopeless_42 : decode cX7_hopeless 42 = .ok (.iadd, 1) := by decide +kernel
theorem dX7_hopeless_43 : decode cX7_hopeless 43 = .ok (.aload_n 0, 1) := by decide +kernel
theorem dX7_hopeless_44 : decode cX7_hopeless 44 = .ok (.iload_n 2, 1) := by decide +kernel
theorem dX7_hopeless_45 : decode cX7_hopeless 45 = .ok (.iconst 4, 1) := by decide +kernel
theorem dX7_hopeless_46 : decode cX7_hopeless 46 = .ok (.invokevirtual 57, 3) := by decide +kernel
theorem dX7_hopeless_49 : decode cX7_hopeless 49 = .ok (.if_icmp .le 9, 3) := by decide +kernel
theorem dX7_hopeless_52 : decode cX7_hopeless 52 = .ok (.iconst 1, 1) := by decide +kernel
theorem dX7_hopeless_53 : decode cX7_hopeless 53 = .ok (.iload_n 2, 1) := by decide +kernel
theorem dX7_hopeless_54 : decode cX7_hopeless 54 = .ok (.ishl, 1) := by decide +kernel
theorem dX7_hopeless_55 : decode cX7_hopeless 55 = .ok (.goto 4, 3) := by decide +kernel
theorem dX7_hopeless_58 : decode cX7_hopeless 58 = .ok (.iconst 0, 1) := by decide +kernel
theorem dX7_hopeless_59 : decode cX7_hopeless 59 = .ok (.ior, 1) := by decide +kernel
theorem dX7_hopeless_60 : decode cX7_hopeless 60 = .ok (.istore_n 1, 1) := by decide +kernel
theorem dX7_hopeless_61 : decode cX7_hopeless 61 = .ok (.iinc 2 1, 3) := by decide +kernel
theorem dX7_hopeless_64 : decode cX7_hopeless 64 = .ok (.goto (-60), 3) := by decide +kernel
theorem dX7_hopeless_67 : decode cX7_hopeless 67 = .ok (.iload_n 1, 1) := by decide +kernel
theorem dX7_hopeless_68 : decode cX7_hopeless 68 = .ok (.ireturn, 1) := by decide +kernel
theorem dX7_undo_0 : decode cX7_undo 0 = .ok (.aload_n 0, 1) := by decide +kernel
theorem dX7_undo_1 : decode cX7_undo 1 = .ok (.getfield 53, 3) := by decide +kernel
theorem dX7_undo_4 : decode cX7_undo 4 = .ok (.ifCond .ne 6, 3) := by decide +kernel
theorem dX7_undo_7 : decode cX7_undo 7 = .ok (.ldc 83, 2) := by decide +kernel
theorem dX7_undo_9 : decode cX7_undo 9 = .ok (.ireturn, 1) := by decide +kernel
theorem dX7_undo_10 : decode cX7_undo 10 = .ok (.aload_n 0, 1) := by decide +kernel
theorem dX7_undo_11 : decode cX7_undo 11 = .ok (.dup, 1) := by decide +kernel
theorem dX7_undo_12 : decode cX7_undo 12 = .ok (.getfield 53, 3) := by decide +kernel
theorem dX7_undo_15 : decode cX7_undo 15 = .ok (.iconst 1, 1) := by decide +kernel
theorem dX7_undo_16 : decode cX7_undo 16 = .ok (.isub, 1) := by decide +kernel
theorem dX7_undo_17 : decode cX7_undo 17 = .ok (.putfield 53, 3) := by decide +kernel
theorem dX7_undo_20 : decode cX7_undo 20 = .ok (.iconst 0, 1) := by decide +kernel
theorem dX7_undo_21 : decode cX7_undo 21 = .ok (.istore_n 1, 1) := by decide +kernel
theorem dX7_undo_22 : decode cX7_undo 22 = .ok (.iload_n 1, 1) := by decide +kernel
theorem dX7_undo_23 : decode cX7_undo 23 = .ok (.sipush 287, 3) := by decide +kernel
theorem dX7_undo_26 : decode cX7_undo 26 = .ok (.if_icmp .ge 30, 3) := by decide +kernel
theorem dX7_undo_29 : decode cX7_undo 29 = .ok (.aload_n 0, 1) := by decide +kernel
theorem dX7_undo_30 : decode cX7_undo 30 = .ok (.getfield 7, 3) := by decide +kernel
theorem dX7_undo_33 : decode cX7_undo 33 = .ok (.iload_n 1, 1) := by decide +kernel
theorem dX7_undo_34 : decode cX7_undo 34 = .ok (.aload_n 0, 1) := by decide +kernel
theorem dX7_undo_35 : decode cX7_undo 35 = .ok (.getfield 13, 3) := by decide +kernel
theorem dX7_undo_38 : decode cX7_undo 38 = .ok (.sipush 287, 3) := by decide +kernel
theorem dX7_undo_41 : decode cX7_undo 41 = .ok (.aload_n 0, 1) := by decide +kernel
theorem dX7_undo_42 : decode cX7_undo 42 = .ok (.getfield 53, 3) := by decide +kernel
theorem dX7_undo_45 : decode cX7_undo 45 = .ok (.imul, 1) := by decide +kernel
theorem dX7_undo_46 : decode cX7_undo 46 = .ok (.iload_n 1, 1) := by decide +kernel
theorem dX7_undo_47 : decode cX7_undo 47 = .ok (.iadd, 1) := by decide +kernel
theorem dX7_undo_48 : decode cX7_undo 48 = .ok (.iaload, 1) := by decide +kernel
theorem dX7_undo_49 : decode cX7_undo 49 = .ok (.iastore, 1) := by decide +kernel
theorem dX7_undo_50 : decode cX7_undo 50 = .ok (.iinc 1 1, 3) := by decide +kernel
theorem dX7_undo_53 : decode cX7_undo 53 = .ok (.goto (-31), 3) := by decide +kernel
theorem dX7_undo_56 : decode cX7_undo 56 = .ok (.aload_n 0, 1) := by decide +kernel
theorem dX7_undo_57 : decode cX7_undo 57 = .ok (.getfield 53, 3) := by decide +kernel
theorem dX7_undo_60 : decode cX7_undo 60 = .ok (.ireturn, 1) := by decide +kernel
theorem dX7_type_0 : decode cX7_type 0 = .ok (.iload_n 1, 1) := by decide +kernel
theorem dX7_type_1 : decode cX7_type 1 = .ok (.bipush 32, 2) := by decide +kernel
theorem dX7_type_3 : decode cX7_type 3 = .ok (.bipush 126, 2) := by decide +kernel
theorem dX7_type_5 : decode cX7_type 5 = .ok (.invokestatic 70, 3) := by decide +kernel
theorem dX7_type_8 : decode cX7_type 8 = .ok (.ifCond .ne 6, 3) := by decide +kernel
theorem dX7_type_11 : decode cX7_type 11 = .ok (.ldc 74, 2) := by decide +kernel
theorem dX7_type_13 : decode cX7_type 13 = .ok (.ireturn, 1) := by decide +kernel
theorem dX7_type_14 : decode cX7_type 14 = .ok (.aload_n 0, 1) := by decide +kernel
theorem dX7_type_15 : decode cX7_type 15 = .ok (.getfield 153, 3) := by decide +kernel
theorem dX7_type_18 : decode cX7_type 18 = .ok (.bipush 80, 2) := by decide +kernel
theorem dX7_type_20 : decode cX7_type 20 = .ok (.if_icmp .ne 6, 3) := by decide +kernel
theorem dX7_type_23 : decode cX7_type 23 = .ok (.ldc 75, 2) := by decide +kernel
theorem dX7_type_25 : decode cX7_type 25 = .ok (.ireturn, 1) := by decide +kernel
theorem dX7_type_26 : decode cX7_type 26 = .ok (.aload_n 0, 1) := by decide +kernel
theorem dX7_type_27 : decode cX7_type 27 = .ok (.getfield 22, 3) := by decide +kernel
theorem dX7_type_30 : decode cX7_type 30 = .ok (.aload_n 0, 1) := by decide +kernel
theorem dX7_type_31 : decode cX7_type 31 = .ok (.getfield 153, 3) := by decide +kernel
theorem dX7_type_34 : decode cX7_type 34 = .ok (.iload_n 1, 1) := by decide +kernel
theorem dX7_type_35 : decode cX7_type 35 = .ok (.iastore, 1) := by decide +kernel
theorem dX7_type_36 : decode cX7_type 36 = .ok (.aload_n 0, 1) := by decide +kernel
theorem dX7_type_37 : decode cX7_type 37 = .ok (.dup, 1) := by decide +kernel
theorem dX7_type_38 : decode cX7_type 38 = .ok (.getfield 153, 3) := by decide +kernel
theorem dX7_type_41 : decode cX7_type 41 = .ok (.iconst 1, 1) := by decide +kernel
theorem dX7_type_42 : decode cX7_type 42 = .ok (.iadd, 1) := by decide +kernel
theorem dX7_type_43 : decode cX7_type 43 = .ok (.putfield 153, 3) := by decide +kernel
theorem dX7_type_46 : decode cX7_type 46 = .ok (.aload_n 0, 1) := by decide +kernel
theorem dX7_type_47 : decode cX7_type 47 = .ok (.getfield 153, 3) := by decide +kernel
theorem dX7_type_50 : decode cX7_type 50 = .ok (.ireturn, 1) := by decide +kernel
theorem dX7_clearText_0 : decode cX7_clearText 0 = .ok (.aload_n 0, 1) := by decide +kernel
theorem dX7_clearText_1 : decode cX7_clearText 1 = .ok (.getfield 153, 3) := by decide +kernel
theorem dX7_clearText_4 : decode cX7_clearText 4 = .ok (.istore_n 1, 1) := by decide +kernel
theorem dX7_clearText_5 : decode cX7_clearText 5 = .ok (.aload_n 0, 1) := by decide +kernel
theorem dX7_clearText_6 : decode cX7_clearText 6 = .ok (.iconst 0, 1) := by decide +kernel
theorem dX7_clearText_7 : decode cX7_clearText 7 = .ok (.putfield 153, 3) := by decide +kernel
theorem dX7_clearText_10 : decode cX7_clearText 10 = .ok (.iload_n 1, 1) := by decide +kernel
theorem dX7_clearText_11 : decode cX7_clearText 11 = .ok (.ireturn, 1) := by decide +kernel
theorem dX7_isAt_0 : decode cX7_isAt 0 = .ok (.aload_n 0, 1) := by decide +kernel
theorem dX7_isAt_1 : decode cX7_isAt 1 = .ok (.getfield 161, 3) := by decide +kernel
theorem dX7_isAt_4 : decode cX7_isAt 4 = .ok (.aload_n 0, 1) := by decide +kernel
theorem dX7_isAt_5 : decode cX7_isAt 5 = .ok (.getfield 153, 3) := by decide +kernel
theorem dX7_isAt_8 : decode cX7_isAt 8 = .ok (.if_icmp .ge 24, 3) := by decide +kernel
theorem dX7_isAt_11 : decode cX7_isAt 11 = .ok (.aload_n 0, 1) := by decide +kernel
theorem dX7_isAt_12 : decode cX7_isAt 12 = .ok (.getfield 22, 3) := by decide +kernel
theorem dX7_isAt_15 : decode cX7_isAt 15 = .ok (.aload_n 0, 1) := by decide +kernel
theorem dX7_isAt_16 : decode cX7_isAt 16 = .ok (.getfield 161, 3) := by decide +kernel
theorem dX7_isAt_19 : decode cX7_isAt 19 = .ok (.iaload, 1) := by decide +kernel
theorem dX7_isAt_20 : decode cX7_isAt 20 = .ok (.iload_n 1, 1) := by decide +kernel
theorem dX7_isAt_21 : decode cX7_isAt 21 = .ok (.iload_n 2, 1) := by decide +kernel
theorem dX7_isAt_22 : decode cX7_isAt 22 = .ok (.invokestatic 70, 3) := by decide +kernel
theorem dX7_isAt_25 : decode cX7_isAt 25 = .ok (.ifCond .eq 7, 3) := by decide +kernel
theorem dX7_isAt_28 : decode cX7_isAt 28 = .ok (.iconst 1, 1) := by decide +kernel
theorem dX7_isAt_29 : decode cX7_isAt 29 = .ok (.goto 4, 3) := by decide +kernel
theorem dX7_isAt_32 : decode cX7_isAt 32 = .ok (.iconst 0, 1) := by decide +kernel
theorem dX7_isAt_33 : decode cX7_isAt 33 = .ok (.ireturn, 1) := by decide +kernel
theorem dX7_passes_0 : decode cX7_passes 0 = .ok (.aload_n 0, 1) := by decide +kernel
theorem dX7_passes_1 : decode cX7_passes 1 = .ok (.iload_n 1, 1) := by decide +kernel
theorem dX7_passes_2 : decode cX7_passes 2 = .ok (.iload_n 1, 1) := by decide +kernel
theorem dX7_passes_3 : decode cX7_passes 3 = .ok (.invokevirtual 164, 3) := by decide +kernel
theorem dX7_passes_6 : decode cX7_passes 6 = .ok (.istore_n 2, 1) := by decide +kernel
theorem dX7_passes_7 : decode cX7_passes 7 = .ok (.aload_n 0, 1) := by decide +kernel
theorem dX7_passes_8 : decode cX7_passes 8 = .ok (.dup, 1) := by decide +kernel
theorem dX7_passes_9 : decode cX7_passes 9 = .ok (.getfield 161, 3) := by decide +kernel
theorem dX7_passes_12 : decode cX7_passes 12 = .ok (.iload_n 2, 1) := by decide +kernel
theorem dX7_passes_13 : decode cX7_passes 13 = .ok (.ifCond .eq 7, 3) := by decide +kernel
theorem dX7_passes_16 : decode cX7_passes 16 = .ok (.iconst 1, 1) := by decide +kernel
theorem dX7_passes_17 : decode cX7_passes 17 = .ok (.goto 4, 3) := by decide +kernel
theorem dX7_passes_20 : decode cX7_passes 20 = .ok (.iconst 0, 1) := by decide +kernel
theorem dX7_passes_21 : decode cX7_passes 21 = .ok (.iadd, 1) := by decide +kernel
theorem dX7_passes_22 : decode cX7_passes 22 = .ok (.putfield 161, 3) := by decide +kernel
theorem dX7_passes_25 : decode cX7_passes 25 = .ok (.iload_n 2, 1) := by decide +kernel
theorem dX7_passes_26 : decode cX7_passes 26 = .ok (.ireturn, 1) := by decide +kernel
theorem dX7_word_0 : decode cX7_word 0 = .ok (.lconst 0, 1) := by decide +kernel
theorem dX7_word_1 : decode cX7_word 1 = .ok (.lstore_n 1, 1) := by decide +kernel
theorem dX7_word_2 : decode cX7_word 2 = .ok (.aload_n 0, 1) := by decide +kernel
theorem dX7_word_3 : decode cX7_word 3 = .ok (.getfield 161, 3) := by decide +kernel
theorem dX7_word_6 : decode cX7_word 6 = .ok (.istore_n 3, 1) := by decide +kernel
theorem dX7_word_7 : decode cX7_word 7 = .ok (.aload_n 0, 1) := by decide +kernel
theorem dX7_word_8 : decode cX7_word 8 = .ok (.bipush 97, 2) := by decide +kernel
theorem dX7_word_10 : decode cX7_word 10 = .ok (.bipush 122, 2) := by decide +kernel
theorem dX7_word_12 : decode cX7_word 12 = .ok (.invokevirtual 164, 3) := by decide +kernel
theorem dX7_word_15 : decode cX7_word 15 = .ok (.ifCond .eq 44, 3) := by decide +kernel
theorem dX7_word_18 : decode cX7_word 18 = .ok (.aload_n 0, 1) := by decide +kernel
theorem dX7_word_19 : decode cX7_word 19 = .ok (.getfield 161, 3) := by decide +kernel
theorem dX7_word_22 : decode cX7_word 22 = .ok (.iload_n 3, 1) := by decide +kernel
theorem dX7_word_23 : decode cX7_word 23 = .ok (.isub, 1) := by decide +kernel
theorem dX7_word_24 : decode cX7_word 24 = .ok (.bipush 6, 2) := by decide +kernel
theorem dX7_word_26 : decode cX7_word 26 = .ok (.if_icmp .ge 33, 3) := by decide +kernel
theorem dX7_word_29 : decode cX7_word 29 = .ok (.lload_n 1, 1) := by decide +kernel
theorem dX7_word_30 : decode cX7_word 30 = .ok (.ldc2_w 167, 3) := by decide +kernel
theorem dX7_word_33 : decode cX7_word 33 = .ok (.lmul, 1) := by decide +kernel
theorem dX7_word_34 : decode cX7_word 34 = .ok (.aload_n 0, 1) := by decide +kernel
theorem dX7_word_35 : decode cX7_word 35 = .ok (.getfield 22, 3) := by decide +kernel
theorem dX7_word_38 : decode cX7_word 38 = .ok (.aload_n 0, 1) := by decide +kernel
theorem dX7_word_39 : decode cX7_word 39 = .ok (.getfield 161, 3) := by decide +kernel
theorem dX7_word_42 : decode cX7_word 42 = .ok (.iaload, 1) := by decide +kernel
theorem dX7_word_43 : decode cX7_word 43 = .ok (.i2l, 1) := by decide +kernel
theorem dX7_word_44 : decode cX7_word 44 = .ok (.ladd, 1) := by decide +kernel
theorem dX7_word_45 : decode cX7_word 45 = .ok (.lstore_n 1, 1) := by decide +kernel
theorem dX7_word_46 : decode cX7_word 46 = .ok (.aload_n 0, 1) := by decide +kernel
theorem dX7_word_47 : decode cX7_word 47 = .ok (.dup, 1) := by decide +kernel
theorem dX7_word_48 : decode cX7_word 48 = .ok (.getfield 161, 3) := by decide +kernel
theorem dX7_word_51 : decode cX7_word 51 = .ok (.iconst 1, 1) := by decide +kernel
theorem dX7_word_52 : decode cX7_word 52 = .ok (.iadd, 1) := by decide +kernel
theorem dX7_word_53 : decode cX7_word 53 = .ok (.putfield 161, 3) := by decide +kernel
theorem dX7_word_56 : decode cX7_word 56 = .ok (.goto (-49), 3) := by decide +kernel
theorem dX7_word_59 : decode cX7_word 59 = .ok (.ldc 69, 2) := by decide +kernel
theorem dX7_word_61 : decode cX7_word 61 = .ok (.istore 4, 2) := by decide +kernel
theorem dX7_word_63 : decode cX7_word 63 = .ok (.iconst 0, 1) := by decide +kernel
theorem dX7_word_64 : decode cX7_word 64 = .ok (.istore 5, 2) := by decide +kernel
theorem dX7_word_66 : decode cX7_word 66 = .ok (.iload 5, 2) := by decide +kernel
theorem dX7_word_68 : decode cX7_word 68 = .ok (.bipush 7, 2) := by decide +kernel
theorem dX7_word_70 : decode cX7_word 70 = .ok (.if_icmp .ge 30, 3) := by decide +kernel
theorem dX7_word_73 : decode cX7_word 73 = .ok (.aload_n 0, 1) := by decide +kernel
theorem dX7_word_74 : decode cX7_word 74 = .ok (.getfield 25, 3) := by decide +kernel
theorem dX7_word_77 : decode cX7_word 77 = .ok (.iload 5, 2) := by decide +kernel
theorem dX7_word_79 : decode cX7_word 79 = .ok (.laload, 1) := by decide +kernel
theorem dX7_word_80 : decode cX7_word 80 = .ok (.lload_n 1, 1) := by decide +kernel
theorem dX7_word_81 : decode cX7_word 81 = .ok (.lcmp, 1) := by decide +kernel
theorem dX7_word_82 : decode cX7_word 82 = .ok (.ifCond .ne 8, 3) := by decide +kernel
theorem dX7_word_85 : decode cX7_word 85 = .ok (.iload 5, 2) := by decide +kernel
theorem dX7_word_87 : decode cX7_word 87 = .ok (.goto 5, 3) := by decide +kernel
theorem dX7_word_90 : decode cX7_word 90 = .ok (.iload 4, 2) := by decide +kernel
theorem dX7_word_92 : decode cX7_word 92 = .ok (.istore 4, 2) := by decide +kernel
theorem dX7_word_94 : decode cX7_word 94 = .ok (.iinc 5 1, 3) := by decide +kernel
theorem dX7_word_97 : decode cX7_word 97 = .ok (.goto (-31), 3) := by decide +kernel
theorem dX7_word_100 : decode cX7_word 100 = .ok (.iload 4, 2) := by decide +kernel
theorem dX7_word_102 : decode cX7_word 102 = .ok (.ireturn, 1) := by decide +kernel
theorem dX7_number_0 : decode cX7_number 0 = .ok (.aload_n 0, 1) := by decide +kernel
theorem dX7_number_1 : decode cX7_number 1 = .ok (.getfield 161, 3) := by decide +kernel
theorem dX7_number_4 : decode cX7_number 4 = .ok (.istore_n 2, 1) := by decide +kernel
theorem dX7_number_5 : decode cX7_number 5 = .ok (.aload_n 0, 1) := by decide +kernel
theorem dX7_number_6 : decode cX7_number 6 = .ok (.getfield 32, 3) := by decide +kernel
theorem dX7_number_9 : decode cX7_number 9 = .ok (.iload_n 1, 1) := by decide +kernel
theorem dX7_number_10 : decode cX7_number 10 = .ok (.iconst 0, 1) := by decide +kernel
theorem dX7_number_11 : decode cX7_number 11 = .ok (.iastore, 1) := by decide +kernel
theorem dX7_number_12 : decode cX7_number 12 = .ok (.aload_n 0, 1) := by decide +kernel
theorem dX7_number_13 : decode cX7_number 13 = .ok (.bipush 48, 2) := by decide +kernel
theorem dX7_number_15 : decode cX7_number 15 = .ok (.bipush 57, 2) := by decide +kernel
theorem dX7_number_17 : decode cX7_number 17 = .ok (.invokevirtual 164, 3) := by decide +kernel
theorem dX7_number_20 : decode cX7_number 20 = .ok (.ifCond .eq 54, 3) := by decide +kernel
theorem dX7_number_23 : decode cX7_number 23 = .ok (.aload_n 0, 1) := by decide +kernel
theorem dX7_number_24 : decode cX7_number 24 = .ok (.getfield 161, 3) := by decide +kernel
theorem dX7_number_27 : decode cX7_number 27 = .ok (.iload_n 2, 1) := by decide +kernel
theorem dX7_number_28 : decode cX7_number 28 = .ok (.isub, 1) := by decide +kernel
theorem dX7_number_29 : decode cX7_number 29 = .ok (.iconst 3, 1) := by decide +kernel
theorem dX7_number_30 : decode cX7_number 30 = .ok (.if_icmp .ge 44, 3) := by decide +kernel
theorem dX7_number_33 : decode cX7_number 33 = .ok (.aload_n 0, 1) := by decide +kernel
theorem dX7_number_34 : decode cX7_number 34 = .ok (.getfield 32, 3) := by decide +kernel
theorem dX7_number_37 : decode cX7_number 37 = .ok (.iload_n 1, 1) := by decide +kernel
theorem dX7_number_38 : decode cX7_number 38 = .ok (.bipush 10, 2) := by decide +kernel
theorem dX7_number_40 : decode cX7_number 40 = .ok (.aload_n 0, 1) := by decide +kernel
theorem dX7_number_41 : decode cX7_number 41 = .ok (.getfield 32, 3) := by decide +kernel
theorem dX7_number_44 : decode cX7_number 44 = .ok (.iload_n 1, 1) := by decide +kernel
theorem dX7_number_45 : decode cX7_number 45 = .ok (.iaload, 1) := by decide +kernel
theorem dX7_number_46 : decode cX7_number 46 = .ok (.imul, 1) := by decide +kernel
theorem dX7_number_47 : decode cX7_number 47 = .ok (.aload_n 0, 1) := by decide +kernel
theorem dX7_number_48 : decode cX7_number 48 = .ok (.getfield 22, 3) := by decide +kernel
theorem dX7_number_51 : decode cX7_number 51 = .ok (.aload_n 0, 1) := by decide +kernel
theorem dX7_number_52 : decode cX7_number 52 = .ok (.getfield 161, 3) := by decide +kernel
theorem dX7_number_55 : decode cX7_number 55 = .ok (.iaload, 1) := by decide +kernel
theorem dX7_number_56 : decode cX7_number 56 = .ok (.iadd, 1) := by decide +kernel
theorem dX7_number_57 : decode cX7_number 57 = .ok (.bipush 48, 2) := by decide +kernel
theorem dX7_number_59 : decode cX7_number 59 = .ok (.isub, 1) := by decide +kernel
theorem dX7_number_60 : decode cX7_number 60 = .ok (.iastore, 1) := by decide +kernel
theorem dX7_number_61 : decode cX7_number 61 = .ok (.aload_n 0, 1) := by decide +kernel
theorem dX7_number_62 : decode cX7_number 62 = .ok (.dup, 1) := by decide +kernel
theorem dX7_number_63 : decode cX7_number 63 = .ok (.getfield 161, 3) := by decide +kernel
theorem dX7_number_66 : decode cX7_number 66 = .ok (.iconst 1, 1) := by decide +kernel
theorem dX7_number_67 : decode cX7_number 67 = .ok (.iadd, 1) := by decide +kernel
theorem dX7_number_68 : decode cX7_number 68 = .ok (.putfield 161, 3) := by decide +kernel
theorem dX7_number_71 : decode cX7_number 71 = .ok (.goto (-59), 3) := by decide +kernel
theorem dX7_number_74 : decode cX7_number 74 = .ok (.aload_n 0, 1) := by decide +kernel
theorem dX7_number_75 : decode cX7_number 75 = .ok (.getfield 161, 3) := by decide +kernel
theorem dX7_number_78 : decode cX7_number 78 = .ok (.iload_n 2, 1) := by decide +kernel
theorem dX7_number_79 : decode cX7_number 79 = .ok (.if_icmp .le 7, 3) := by decide +kernel
theorem dX7_number_82 : decode cX7_number 82 = .ok (.iconst 1, 1) := by decide +kernel
theorem dX7_number_83 : decode cX7_number 83 = .ok (.goto 4, 3) := by decide +kernel
theorem dX7_number_86 : decode cX7_number 86 = .ok (.iconst 0, 1) := by decide +kernel
theorem dX7_number_87 : decode cX7_number 87 = .ok (.ireturn, 1) := by decide +kernel
theorem dX7_reads_0 : decode cX7_reads 0 = .ok (.aload_n 0, 1) := by decide +kernel
theorem dX7_reads_1 : decode cX7_reads 1 = .ok (.invokevirtual 169, 3) := by decide +kernel
theorem dX7_reads_4 : decode cX7_reads 4 = .ok (.istore_n 1, 1) := by decide +kernel
theorem dX7_reads_5 : decode cX7_reads 5 = .ok (.iload_n 1, 1) := by decide +kernel
theorem dX7_reads_6 : decode cX7_reads 6 = .ok (.ifCond .lt 7, 3) := by decide +kernel
theorem dX7_reads_9 : decode cX7_reads 9 = .ok (.iconst 1, 1) := by decide +kernel
theorem dX7_reads_10 : decode cX7_reads 10 = .ok (.goto 4, 3) := by decide +kernel
theorem dX7_reads_13 : decode cX7_reads 13 = .ok (.iconst 0, 1) := by decide +kernel
theorem dX7_reads_14 : decode cX7_reads 14 = .ok (.istore_n 2, 1) := by decide +kernel
theorem dX7_reads_15 : decode cX7_reads 15 = .ok (.iconst 0, 1) := by decide +kernel
theorem dX7_reads_16 : decode cX7_reads 16 = .ok (.istore_n 3, 1) := by decide +kernel
theorem dX7_reads_17 : decode cX7_reads 17 = .ok (.iload_n 2, 1) := by decide +kernel
theorem dX7_reads_18 : decode cX7_reads 18 = .ok (.ifCond .eq 42, 3) := by decide +kernel
theorem dX7_reads_21 : decode cX7_reads 21 = .ok (.iload_n 3, 1) := by decide +kernel
theorem dX7_reads_22 : decode cX7_reads 22 = .ok (.aload_n 0, 1) := by decide +kernel
theorem dX7_reads_23 : decode cX7_reads 23 = .ok (.getfield 29, 3) := by decide +kernel
theorem dX7_reads_26 : decode cX7_reads 26 = .ok (.iload_n 1, 1) := by decide +kernel
theorem dX7_reads_27 : decode cX7_reads 27 = .ok (.iaload, 1) := by decide +kernel
theorem dX7_reads_28 : decode cX7_reads 28 = .ok (.if_icmp .ge 32, 3) := by decide +kernel
theorem dX7_reads_31 : decode cX7_reads 31 = .ok (.aload_n 0, 1) := by decide +kernel
theorem dX7_reads_32 : decode cX7_reads 32 = .ok (.bipush 32, 2) := by decide +kernel
theorem dX7_reads_34 : decode cX7_reads 34 = .ok (.invokevirtual 172, 3) := by decide +kernel
theorem dX7_reads_37 : decode cX7_reads 37 = .ok (.ifCond .eq 15, 3) := by decide +kernel
theorem dX7_reads_40 : decode cX7_reads 40 = .ok (.aload_n 0, 1) := by decide +kernel
theorem dX7_reads_41 : decode cX7_reads 41 = .ok (.iload_n 3, 1) := by decide +kernel
theorem dX7_reads_42 : decode cX7_reads 42 = .ok (.invokevirtual 175, 3) := by decide +kernel
theorem dX7_reads_45 : decode cX7_reads 45 = .ok (.ifCond .eq 7, 3) := by decide +kernel
theorem dX7_reads_48 : decode cX7_reads 48 = .ok (.iconst 1, 1) := by decide +kernel
theorem dX7_reads_49 : decode cX7_reads 49 = .ok (.goto 4, 3) := by decide +kernel
theorem dX7_reads_52 : decode cX7_reads 52 = .ok (.iconst 0, 1) := by decide +kernel
theorem dX7_reads_53 : decode cX7_reads 53 = .ok (.istore_n 2, 1) := by decide +kernel
theorem dX7_reads_54 : decode cX7_reads 54 = .ok (.iinc 3 1, 3) := by decide +kernel
theorem dX7_reads_57 : decode cX7_reads 57 = .ok (.goto (-40), 3) := by decide +kernel
theorem dX7_reads_60 : decode cX7_reads 60 = .ok (.iload_n 2, 1) := by decide +kernel
theorem dX7_reads_61 : decode cX7_reads 61 = .ok (.ifCond .eq 16, 3) := by decide +kernel
theorem dX7_reads_64 : decode cX7_reads 64 = .ok (.aload_n 0, 1) := by decide +kernel
theorem dX7_reads_65 : decode cX7_reads 65 = .ok (.bipush 59, 2) := by decide +kernel
theorem dX7_reads_67 : decode cX7_reads 67 = .ok (.invokevirtual 172, 3) := by decide +kernel
theorem dX7_reads_70 : decode cX7_reads 70 = .ok (.ifCond .eq 7, 3) := by decide +kernel
theorem dX7_reads_73 : decode cX7_reads 73 = .ok (.iload_n 1, 1) := by decide +kernel
theorem dX7_reads_74 : decode cX7_reads 74 = .ok (.goto 5, 3) := by decide +kernel
theorem dX7_reads_77 : decode cX7_reads 77 = .ok (.ldc 69, 2) := by decide +kernel
theorem dX7_reads_79 : decode cX7_reads 79 = .ok (.ireturn, 1) := by decide +kernel
theorem dX7_calls_0 : decode cX7_calls 0 = .ok (.iload_n 1, 1) := by decide +kernel
theorem dX7_calls_1 : decode cX7_calls 1 = .ok (.tableswitch 165 0 5 #[39, 56, 79, 90, 113, 130], 39) := by decide +kernel
theorem dX7_calls_40 : decode cX7_calls 40 = .ok (.aload_n 0, 1) := by decide +kernel
theorem dX7_calls_41 : decode cX7_calls 41 = .ok (.aload_n 0, 1) := by decide +kernel
theorem dX7_calls_42 : decode cX7_calls 42 = .ok (.getfield 32, 3) := by decide +kernel
theorem dX7_calls_45 : decode cX7_calls 45 = .ok (.iconst 0, 1) := by decide +kernel
theorem dX7_calls_46 : decode cX7_calls 46 = .ok (.iaload, 1) := by decide +kernel
theorem dX7_calls_47 : decode cX7_calls 47 = .ok (.aload_n 0, 1) := by decide +kernel
theorem dX7_calls_48 : decode cX7_calls 48 = .ok (.getfield 32, 3) := by decide +kernel
theorem dX7_calls_51 : decode cX7_calls 51 = .ok (.iconst 1, 1) := by decide +kernel
theorem dX7_calls_52 : decode cX7_calls 52 = .ok (.iaload, 1) := by decide +kernel
theorem dX7_calls_53 : decode cX7_calls 53 = .ok (.invokevirtual 178, 3) := by decide +kernel
theorem dX7_calls_56 : decode cX7_calls 56 = .ok (.ireturn, 1) := by decide +kernel
theorem dX7_calls_57 : decode cX7_calls 57 = .ok (.aload_n 0, 1) := by decide +kernel
theorem dX7_calls_58 : decode cX7_calls 58 = .ok (.aload_n 0, 1) := by decide +kernel
theorem dX7_calls_59 : decode cX7_calls 59 = .ok (.getfield 32, 3) := by decide +kernel
theorem dX7_calls_62 : decode cX7_calls 62 = .ok (.iconst 0, 1) := by decide +kernel
theorem dX7_calls_63 : decode cX7_calls 63 = .ok (.iaload, 1) := by decide +kernel
theorem dX7_calls_64 : decode cX7_calls 64 = .ok (.aload_n 0, 1) := by decide +kernel
theorem dX7_calls_65 : decode cX7_calls 65 = .ok (.getfield 32, 3) := by decide +kernel
theorem dX7_calls_68 : decode cX7_calls 68 = .ok (.iconst 1, 1) := by decide +kernel
theorem dX7_calls_69 : decode cX7_calls 69 = .ok (.iaload, 1) := by decide +kernel
theorem dX7_calls_70 : decode cX7_calls 70 = .ok (.aload_n 0, 1) := by decide +kernel
theorem dX7_calls_71 : decode cX7_calls 71 = .ok (.getfield 32, 3) := by decide +kernel
theorem dX7_calls_74 : decode cX7_calls 74 = .ok (.iconst 2, 1) := by decide +kernel
theorem dX7_calls_75 : decode cX7_calls 75 = .ok (.iaload, 1) := by decide +kernel
theorem dX7_calls_76 : decode cX7_calls 76 = .ok (.invokevirtual 181, 3) := by decide +kernel
theorem dX7_calls_79 : decode cX7_calls 79 = .ok (.ireturn, 1) := by decide +kernel
theorem dX7_calls_80 : decode cX7_calls 80 = .ok (.aload_n 0, 1) := by decide +kernel
theorem dX7_calls_81 : decode cX7_calls 81 = .ok (.aload_n 0, 1) := by decide +kernel
theorem dX7_calls_82 : decode cX7_calls 82 = .ok (.getfield 32, 3) := by decide +kernel
theorem dX7_calls_85 : decode cX7_calls 85 = .ok (.iconst 0, 1) := by decide +kernel
theorem dX7_calls_86 : decode cX7_calls 86 = .ok (.iaload, 1) := by decide +kernel
theorem dX7_calls_87 : decode cX7_calls 87 = .ok (.invokevirtual 184, 3) := by decide +kernel
theorem dX7_calls_90 : decode cX7_calls 90 = .ok (.ireturn, 1) := by decide +kernel
theorem dX7_calls_91 : decode cX7_calls 91 = .ok (.aload_n 0, 1) := by decide +kernel
theorem dX7_calls_92 : decode cX7_calls 92 = .ok (.aload_n 0, 1) := by decide +kernel
theorem dX7_calls_93 : decode cX7_calls 93 = .ok (.getfield 32, 3) := by decide +kernel
theorem dX7_calls_96 : decode cX7_calls 96 = .ok (.iconst 0, 1) := by decide +kernel
theorem dX7_calls_97 : decode cX7_calls 97 = .ok (.iaload, 1) := by decide +kernel
theorem dX7_calls_98 : decode cX7_calls 98 = .ok (.aload_n 0, 1) := by decide +kernel
theorem dX7_calls_99 : decode cX7_calls 99 = .ok (.getfield 32, 3) := by decide +kernel
theorem dX7_calls_102 : decode cX7_calls 102 = .ok (.iconst 1, 1) := by decide +kernel
theorem dX7_calls_103 : decode cX7_calls 103 = .ok (.iaload, 1) := by decide +kernel
theorem dX7_calls_104 : decode cX7_calls 104 = .ok (.aload_n 0, 1) := by decide +kernel
theorem dX7_calls_105 : decode cX7_calls 105 = .ok (.getfield 32, 3) := by decide +kernel
theorem dX7_calls_108 : decode cX7_calls 108 = .ok (.iconst 2, 1) := by decide +kernel
theorem dX7_calls_109 : decode cX7_calls 109 = .ok (.iaload, 1) := by decide +kernel
theorem dX7_calls_110 : decode cX7_calls 110 = .ok (.invokevirtual 187, 3) := by decide +kernel
theorem dX7_calls_113 : decode cX7_calls 113 = .ok (.ireturn, 1) := by decide +kernel
theorem dX7_calls_114 : decode cX7_calls 114 = .ok (.aload_n 0, 1) := by decide +kernel
theorem dX7_calls_115 : decode cX7_calls 115 = .ok (.aload_n 0, 1) := by decide +kernel
theorem dX7_calls_116 : decode cX7_calls 116 = .ok (.getfield 32, 3) := by decide +kernel
theorem dX7_calls_119 : decode cX7_calls 119 = .ok (.iconst 0, 1) := by decide +kernel
theorem dX7_calls_120 : decode cX7_calls 120 = .ok (.iaload, 1) := by decide +kernel
theorem dX7_calls_121 : decode cX7_calls 121 = .ok (.aload_n 0, 1) := by decide +kernel
theorem dX7_calls_122 : decode cX7_calls 122 = .ok (.getfield 32, 3) := by decide +kernel
theorem dX7_calls_125 : decode cX7_calls 125 = .ok (.iconst 1, 1) := by decide +kernel
theorem dX7_calls_126 : decode cX7_calls 126 = .ok (.iaload, 1) := by decide +kernel
theorem dX7_calls_127 : decode cX7_calls 127 = .ok (.invokevirtual 190, 3) := by decide +kernel
theorem dX7_calls_130 : decode cX7_calls 130 = .ok (.ireturn, 1) := by decide +kernel
theorem dX7_calls_131 : decode cX7_calls 131 = .ok (.aload_n 0, 1) := by decide +kernel
theorem dX7_calls_132 : decode cX7_calls 132 = .ok (.aload_n 0, 1) := by decide +kernel
theorem dX7_calls_133 : decode cX7_calls 133 = .ok (.getfield 32, 3) := by decide +kernel
theorem dX7_calls_136 : decode cX7_calls 136 = .ok (.iconst 0, 1) := by decide +kernel
theorem dX7_calls_137 : decode cX7_calls 137 = .ok (.iaload, 1) := by decide +kernel
theorem dX7_calls_138 : decode cX7_calls 138 = .ok (.aload_n 0, 1) := by decide +kernel
theorem dX7_calls_139 : decode cX7_calls 139 = .ok (.getfield 32, 3) := by decide +kernel
theorem dX7_calls_142 : decode cX7_calls 142 = .ok (.iconst 1, 1) := by decide +kernel
theorem dX7_calls_143 : decode cX7_calls 143 = .ok (.iaload, 1) := by decide +kernel
theorem dX7_calls_144 : decode cX7_calls 144 = .ok (.aload_n 0, 1) := by decide +kernel
theorem dX7_calls_145 : decode cX7_calls 145 = .ok (.getfield 32, 3) := by decide +kernel
theorem dX7_calls_148 : decode cX7_calls 148 = .ok (.iconst 2, 1) := by decide +kernel
theorem dX7_calls_149 : decode cX7_calls 149 = .ok (.iaload, 1) := by decide +kernel
theorem dX7_calls_150 : decode cX7_calls 150 = .ok (.aload_n 0, 1) := by decide +kernel
theorem dX7_calls_151 : decode cX7_calls 151 = .ok (.getfield 32, 3) := by decide +kernel
theorem dX7_calls_154 : decode cX7_calls 154 = .ok (.iconst 3, 1) := by decide +kernel
theorem dX7_calls_155 : decode cX7_calls 155 = .ok (.iaload, 1) := by decide +kernel
theorem dX7_calls_156 : decode cX7_calls 156 = .ok (.aload_n 0, 1) := by decide +kernel
theorem dX7_calls_157 : decode cX7_calls 157 = .ok (.getfield 32, 3) := by decide +kernel
theorem dX7_calls_160 : decode cX7_calls 160 = .ok (.iconst 4, 1) := by decide +kernel
theorem dX7_calls_161 : decode cX7_calls 161 = .ok (.iaload, 1) := by decide +kernel
theorem dX7_calls_162 : decode cX7_calls 162 = .ok (.invokevirtual 193, 3) := by decide +kernel
theorem dX7_calls_165 : decode cX7_calls 165 = .ok (.ireturn, 1) := by decide +kernel
theorem dX7_calls_166 : decode cX7_calls 166 = .ok (.aload_n 0, 1) := by decide +kernel
theorem dX7_calls_167 : decode cX7_calls 167 = .ok (.aload_n 0, 1) := by decide +kernel
theorem dX7_calls_168 : decode cX7_calls 168 = .ok (.getfield 32, 3) := by decide +kernel
theorem dX7_calls_171 : decode cX7_calls 171 = .ok (.iconst 0, 1) := by decide +kernel
theorem dX7_calls_172 : decode cX7_calls 172 = .ok (.iaload, 1) := by decide +kernel
theorem dX7_calls_173 : decode cX7_calls 173 = .ok (.invokevirtual 197, 3) := by decide +kernel
theorem dX7_calls_176 : decode cX7_calls 176 = .ok (.ireturn, 1) := by decide +kernel
theorem dX7_plays_0 : decode cX7_plays 0 = .ok (.aload_n 0, 1) := by decide +kernel
theorem dX7_plays_1 : decode cX7_plays 1 = .ok (.iconst 1, 1) := by decide +kernel
theorem dX7_plays_2 : decode cX7_plays 2 = .ok (.putfield 49, 3) := by decide +kernel
theorem dX7_plays_5 : decode cX7_plays 5 = .ok (.aload_n 0, 1) := by decide +kernel
theorem dX7_plays_6 : decode cX7_plays 6 = .ok (.iconst 0, 1) := by decide +kernel
theorem dX7_plays_7 : decode cX7_plays 7 = .ok (.putfield 161, 3) := by decide +kernel
theorem dX7_plays_10 : decode cX7_plays 10 = .ok (.aload_n 0, 1) := by decide +kernel
theorem dX7_plays_11 : decode cX7_plays 11 = .ok (.iconst 0, 1) := by decide +kernel
theorem dX7_plays_12 : decode cX7_plays 12 = .ok (.putfield 200, 3) := by decide +kernel
theorem dX7_plays_15 : decode cX7_plays 15 = .ok (.aload_n 0, 1) := by decide +kernel
theorem dX7_plays_16 : decode cX7_plays 16 = .ok (.iconst 0, 1) := by decide +kernel
theorem dX7_plays_17 : decode cX7_plays 17 = .ok (.putfield 203, 3) := by decide +kernel
theorem dX7_plays_20 : decode cX7_plays 20 = .ok (.iconst 0, 1) := by decide +kernel
theorem dX7_plays_21 : decode cX7_plays 21 = .ok (.istore_n 1, 1) := by decide +kernel
theorem dX7_plays_22 : decode cX7_plays 22 = .ok (.aload_n 0, 1) := by decide +kernel
theorem dX7_plays_23 : decode cX7_plays 23 = .ok (.getfield 161, 3) := by decide +kernel
theorem dX7_plays_26 : decode cX7_plays 26 = .ok (.aload_n 0, 1) := by decide +kernel
theorem dX7_plays_27 : decode cX7_plays 27 = .ok (.getfield 153, 3) := by decide +kernel
theorem dX7_plays_30 : decode cX7_plays 30 = .ok (.if_icmp .ge 78, 3) := by decide +kernel
theorem dX7_plays_33 : decode cX7_plays 33 = .ok (.aload_n 0, 1) := by decide +kernel
theorem dX7_plays_34 : decode cX7_plays 34 = .ok (.getfield 203, 3) := by decide +kernel
theorem dX7_plays_37 : decode cX7_plays 37 = .ok (.ifCond .ne 71, 3) := by decide +kernel
theorem dX7_plays_40 : decode cX7_plays 40 = .ok (.aload_n 0, 1) := by decide +kernel
theorem dX7_plays_41 : decode cX7_plays 41 = .ok (.getfield 161, 3) := by decide +kernel
theorem dX7_plays_44 : decode cX7_plays 44 = .ok (.istore_n 1, 1) := by decide +kernel
theorem dX7_plays_45 : decode cX7_plays 45 = .ok (.aload_n 0, 1) := by decide +kernel
theorem dX7_plays_46 : decode cX7_plays 46 = .ok (.invokevirtual 206, 3) := by decide +kernel
theorem dX7_plays_49 : decode cX7_plays 49 = .ok (.istore_n 2, 1) := by decide +kernel
theorem dX7_plays_50 : decode cX7_plays 50 = .ok (.iload_n 2, 1) := by decide +kernel
theorem dX7_plays_51 : decode cX7_plays 51 = .ok (.ifCond .ge 7, 3) := by decide +kernel
theorem dX7_plays_54 : decode cX7_plays 54 = .ok (.iconst 0, 1) := by decide +kernel
theorem dX7_plays_55 : decode cX7_plays 55 = .ok (.goto 8, 3) := by decide +kernel
theorem dX7_plays_58 : decode cX7_plays 58 = .ok (.aload_n 0, 1) := by decide +kernel
theorem dX7_plays_59 : decode cX7_plays 59 = .ok (.iload_n 2, 1) := by decide +kernel
theorem dX7_plays_60 : decode cX7_plays 60 = .ok (.invokevirtual 209, 3) := by decide +kernel
theorem dX7_plays_63 : decode cX7_plays 63 = .ok (.istore_n 3, 1) := by decide +kernel
theorem dX7_plays_64 : decode cX7_plays 64 = .ok (.aload_n 0, 1) := by decide +kernel
theorem dX7_plays_65 : decode cX7_plays 65 = .ok (.iload_n 2, 1) := by decide +kernel
theorem dX7_plays_66 : decode cX7_plays 66 = .ok (.ifCond .ge 7, 3) := by decide +kernel
theorem dX7_plays_69 : decode cX7_plays 69 = .ok (.iconst 1, 1) := by decide +kernel
theorem dX7_plays_70 : decode cX7_plays 70 = .ok (.goto 22, 3) := by decide +kernel
theorem dX7_plays_73 : decode cX7_plays 73 = .ok (.iload_n 3, 1) := by decide +kernel
theorem dX7_plays_74 : decode cX7_plays 74 = .ok (.ifCond .lt 7, 3) := by decide +kernel
theorem dX7_plays_77 : decode cX7_plays 77 = .ok (.iconst 0, 1) := by decide +kernel
theorem dX7_plays_78 : decode cX7_plays 78 = .ok (.goto 14, 3) := by decide +kernel
theorem dX7_plays_81 : decode cX7_plays 81 = .ok (.iload_n 3, 1) := by decide +kernel
theorem dX7_plays_82 : decode cX7_plays 82 = .ok (.ldc 74, 2) := by decide +kernel
theorem dX7_plays_84 : decode cX7_plays 84 = .ok (.if_icmp .ne 7, 3) := by decide +kernel
theorem dX7_plays_87 : decode cX7_plays 87 = .ok (.iconst 2, 1) := by decide +kernel
theorem dX7_plays_88 : decode cX7_plays 88 = .ok (.goto 4, 3) := by decide +kernel
theorem dX7_plays_91 : decode cX7_plays 91 = .ok (.iconst 3, 1) := by decide +kernel
theorem dX7_plays_92 : decode cX7_plays 92 = .ok (.putfield 203, 3) := by decide +kernel
theorem dX7_plays_95 : decode cX7_plays 95 = .ok (.aload_n 0, 1) := by decide +kernel
theorem dX7_plays_96 : decode cX7_plays 96 = .ok (.dup, 1) := by decide +kernel
theorem dX7_plays_97 : decode cX7_plays 97 = .ok (.getfield 200, 3) := by decide +kernel
theorem dX7_plays_100 : decode cX7_plays 100 = .ok (.iconst 1, 1) := by decide +kernel
theorem dX7_plays_101 : decode cX7_plays 101 = .ok (.iadd, 1) := by decide +kernel
theorem dX7_plays_102 : decode cX7_plays 102 = .ok (.putfield 200, 3) := by decide +kernel
theorem dX7_plays_105 : decode cX7_plays 105 = .ok (.goto (-83), 3) := by decide +kernel
theorem dX7_plays_108 : decode cX7_plays 108 = .ok (.aload_n 0, 1) := by decide +kernel
theorem dX7_plays_109 : decode cX7_plays 109 = .ok (.iconst 0, 1) := by decide +kernel
theorem dX7_plays_110 : decode cX7_plays 110 = .ok (.putfield 49, 3) := by decide +kernel
theorem dX7_plays_113 : decode cX7_plays 113 = .ok (.aload_n 0, 1) := by decide +kernel
theorem dX7_plays_114 : decode cX7_plays 114 = .ok (.getfield 203, 3) := by decide +kernel
theorem dX7_plays_117 : decode cX7_plays 117 = .ok (.ifCond .ne 8, 3) := by decide +kernel
theorem dX7_plays_120 : decode cX7_plays 120 = .ok (.ldc 69, 2) := by decide +kernel
theorem dX7_plays_122 : decode cX7_plays 122 = .ok (.goto 4, 3) := by decide +kernel
theorem dX7_plays_125 : decode cX7_plays 125 = .ok (.iload_n 1, 1) := by decide +kernel
theorem dX7_plays_126 : decode cX7_plays 126 = .ok (.ireturn, 1) := by decide +kernel
theorem dX7_fault_0 : decode cX7_fault 0 = .ok (.iload_n 1, 1) := by decide +kernel
theorem dX7_fault_1 : decode cX7_fault 1 = .ok (.iconst 0, 1) := by decide +kernel
theorem dX7_fault_2 : decode cX7_fault 2 = .ok (.iconst 1, 1) := by decide +kernel
theorem dX7_fault_3 : decode cX7_fault 3 = .ok (.invokestatic 70, 3) := by decide +kernel
theorem dX7_fault_6 : decode cX7_fault 6 = .ok (.ifCond .ne 6, 3) := by decide +kernel
theorem dX7_fault_9 : decode cX7_fault 9 = .ok (.ldc 74, 2) := by decide +kernel
theorem dX7_fault_11 : decode cX7_fault 11 = .ok (.ireturn, 1) := by decide +kernel
theorem dX7_fault_12 : decode cX7_fault 12 = .ok (.aload_n 0, 1) := by decide +kernel
theorem dX7_fault_13 : decode cX7_fault 13 = .ok (.getfield 7, 3) := by decide +kernel
theorem dX7_fault_16 : decode cX7_fault 16 = .ok (.aload_n 0, 1) := by decide +kernel
theorem dX7_fault_17 : decode cX7_fault 17 = .ok (.getfield 16, 3) := by decide +kernel
theorem dX7_fault_20 : decode cX7_fault 20 = .ok (.invokestatic 156, 3) := by decide +kernel
theorem dX7_fault_23 : decode cX7_fault 23 = .ok (.aload_n 0, 1) := by decide +kernel
theorem dX7_fault_24 : decode cX7_fault 24 = .ok (.invokevirtual 212, 3) := by decide +kernel
theorem dX7_fault_27 : decode cX7_fault 27 = .ok (.istore_n 2, 1) := by decide +kernel
theorem dX7_fault_28 : decode cX7_fault 28 = .ok (.aload_n 0, 1) := by decide +kernel
theorem dX7_fault_29 : decode cX7_fault 29 = .ok (.getfield 16, 3) := by decide +kernel
theorem dX7_fault_32 : decode cX7_fault 32 = .ok (.aload_n 0, 1) := by decide +kernel
theorem dX7_fault_33 : decode cX7_fault 33 = .ok (.getfield 7, 3) := by decide +kernel
theorem dX7_fault_36 : decode cX7_fault 36 = .ok (.invokestatic 156, 3) := by decide +kernel
theorem dX7_fault_39 : decode cX7_fault 39 = .ok (.iload_n 2, 1) := by decide +kernel
theorem dX7_fault_40 : decode cX7_fault 40 = .ok (.ldc 69, 2) := by decide +kernel
theorem dX7_fault_42 : decode cX7_fault 42 = .ok (.if_icmp .eq 7, 3) := by decide +kernel
theorem dX7_fault_45 : decode cX7_fault 45 = .ok (.iload_n 1, 1) := by decide +kernel
theorem dX7_fault_46 : decode cX7_fault 46 = .ok (.ifCond .ne 7, 3) := by decide +kernel
theorem dX7_fault_49 : decode cX7_fault 49 = .ok (.iload_n 2, 1) := by decide +kernel
theorem dX7_fault_50 : decode cX7_fault 50 = .ok (.goto 7, 3) := by decide +kernel
theorem dX7_fault_53 : decode cX7_fault 53 = .ok (.aload_n 0, 1) := by decide +kernel
theorem dX7_fault_54 : decode cX7_fault 54 = .ok (.getfield 203, 3) := by decide +kernel
theorem dX7_fault_57 : decode cX7_fault 57 = .ok (.ireturn, 1) := by decide +kernel
theorem dX7_play_0 : decode cX7_play 0 = .ok (.aload_n 0, 1) := by decide +kernel
theorem dX7_play_1 : decode cX7_play 1 = .ok (.getfield 7, 3) := by decide +kernel
theorem dX7_play_4 : decode cX7_play 4 = .ok (.aload_n 0, 1) := by decide +kernel
theorem dX7_play_5 : decode cX7_play 5 = .ok (.getfield 16, 3) := by decide +kernel
theorem dX7_play_8 : decode cX7_play 8 = .ok (.invokestatic 156, 3) := by decide +kernel
theorem dX7_play_11 : decode cX7_play 11 = .ok (.aload_n 0, 1) := by decide +kernel
theorem dX7_play_12 : decode cX7_play 12 = .ok (.invokevirtual 212, 3) := by decide +kernel
theorem dX7_play_15 : decode cX7_play 15 = .ok (.istore_n 1, 1) := by decide +kernel
theorem dX7_play_16 : decode cX7_play 16 = .ok (.aload_n 0, 1) := by decide +kernel
theorem dX7_play_17 : decode cX7_play 17 = .ok (.getfield 16, 3) := by decide +kernel
theorem dX7_play_20 : decode cX7_play 20 = .ok (.aload_n 0, 1) := by decide +kernel
theorem dX7_play_21 : decode cX7_play 21 = .ok (.getfield 7, 3) := by decide +kernel
theorem dX7_play_24 : decode cX7_play 24 = .ok (.invokestatic 156, 3) := by decide +kernel
theorem dX7_play_27 : decode cX7_play 27 = .ok (.iload_n 1, 1) := by decide +kernel
theorem dX7_play_28 : decode cX7_play 28 = .ok (.ldc 69, 2) := by decide +kernel
theorem dX7_play_30 : decode cX7_play 30 = .ok (.if_icmp .eq 6, 3) := by decide +kernel
theorem dX7_play_33 : decode cX7_play 33 = .ok (.ldc 83, 2) := by decide +kernel
theorem dX7_play_35 : decode cX7_play 35 = .ok (.ireturn, 1) := by decide +kernel
theorem dX7_play_36 : decode cX7_play 36 = .ok (.aload_n 0, 1) := by decide +kernel
theorem dX7_play_37 : decode cX7_play 37 = .ok (.invokevirtual 76, 3) := by decide +kernel
theorem dX7_play_40 : decode cX7_play 40 = .ok (.aload_n 0, 1) := by decide +kernel
theorem dX7_play_41 : decode cX7_play 41 = .ok (.invokevirtual 212, 3) := by decide +kernel
theorem dX7_play_44 : decode cX7_play 44 = .ok (.ldc 69, 2) := by decide +kernel
theorem dX7_play_46 : decode cX7_play 46 = .ok (.if_icmp .ne 10, 3) := by decide +kernel
theorem dX7_play_49 : decode cX7_play 49 = .ok (.aload_n 0, 1) := by decide +kernel
theorem dX7_play_50 : decode cX7_play 50 = .ok (.getfield 200, 3) := by decide +kernel
theorem dX7_play_53 : decode cX7_play 53 = .ok (.goto 5, 3) := by decide +kernel
theorem dX7_play_56 : decode cX7_play 56 = .ok (.ldc 69, 2) := by decide +kernel
theorem dX7_play_58 : decode cX7_play 58 = .ok (.ireturn, 1) := by decide +kernel
