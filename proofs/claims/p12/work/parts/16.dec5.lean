theorem d_Mo_holds_70 : decode b_Mo_holds 70 = .ok (.aload_n 0, 1) := by decide +kernel
theorem d_Mo_holds_71 : decode b_Mo_holds 71 = .ok (.getfield 17, 3) := by decide +kernel
theorem d_Mo_holds_74 : decode b_Mo_holds 74 = .ok (.imul, 1) := by decide +kernel
theorem d_Mo_holds_75 : decode b_Mo_holds 75 = .ok (.iconst 4, 1) := by decide +kernel
theorem d_Mo_holds_76 : decode b_Mo_holds 76 = .ok (.iload_n 1, 1) := by decide +kernel
theorem d_Mo_holds_77 : decode b_Mo_holds 77 = .ok (.imul, 1) := by decide +kernel
theorem d_Mo_holds_78 : decode b_Mo_holds 78 = .ok (.iadd, 1) := by decide +kernel
theorem d_Mo_holds_79 : decode b_Mo_holds 79 = .ok (.iload 4, 2) := by decide +kernel
theorem d_Mo_holds_81 : decode b_Mo_holds 81 = .ok (.iadd, 1) := by decide +kernel
theorem d_Mo_holds_82 : decode b_Mo_holds 82 = .ok (.iaload, 1) := by decide +kernel
theorem d_Mo_holds_83 : decode b_Mo_holds 83 = .ok (.istore 8, 2) := by decide +kernel
theorem d_Mo_holds_85 : decode b_Mo_holds 85 = .ok (.iload_n 3, 1) := by decide +kernel
theorem d_Mo_holds_86 : decode b_Mo_holds 86 = .ok (.ifCond .eq 65, 3) := by decide +kernel
theorem d_Mo_holds_89 : decode b_Mo_holds 89 = .ok (.iload 8, 2) := by decide +kernel
theorem d_Mo_holds_91 : decode b_Mo_holds 91 = .ok (.bipush 60, 2) := by decide +kernel
theorem d_Mo_holds_93 : decode b_Mo_holds 93 = .ok (.if_icmp .ne 13, 3) := by decide +kernel
theorem d_Mo_holds_96 : decode b_Mo_holds 96 = .ok (.iload 6, 2) := by decide +kernel
theorem d_Mo_holds_98 : decode b_Mo_holds 98 = .ok (.iload 7, 2) := by decide +kernel
theorem d_Mo_holds_100 : decode b_Mo_holds 100 = .ok (.if_icmp .ge 51, 3) := by decide +kernel
theorem d_Mo_holds_103 : decode b_Mo_holds 103 = .ok (.goto 44, 3) := by decide +kernel
theorem d_Mo_holds_106 : decode b_Mo_holds 106 = .ok (.iload 8, 2) := by decide +kernel
theorem d_Mo_holds_108 : decode b_Mo_holds 108 = .ok (.bipush 62, 2) := by decide +kernel
theorem d_Mo_holds_110 : decode b_Mo_holds 110 = .ok (.if_icmp .ne 13, 3) := by decide +kernel
theorem d_Mo_holds_113 : decode b_Mo_holds 113 = .ok (.iload 6, 2) := by decide +kernel
theorem d_Mo_holds_115 : decode b_Mo_holds 115 = .ok (.iload 7, 2) := by decide +kernel
theorem d_Mo_holds_117 : decode b_Mo_holds 117 = .ok (.if_icmp .le 34, 3) := by decide +kernel
theorem d_Mo_holds_120 : decode b_Mo_holds 120 = .ok (.goto 27, 3) := by decide +kernel
theorem d_Mo_holds_123 : decode b_Mo_holds 123 = .ok (.iload 8, 2) := by decide +kernel
theorem d_Mo_holds_125 : decode b_Mo_holds 125 = .ok (.bipush 61, 2) := by decide +kernel
theorem d_Mo_holds_127 : decode b_Mo_holds 127 = .ok (.if_icmp .ne 13, 3) := by decide +kernel
theorem d_Mo_holds_130 : decode b_Mo_holds 130 = .ok (.iload 6, 2) := by decide +kernel
theorem d_Mo_holds_132 : decode b_Mo_holds 132 = .ok (.iload 7, 2) := by decide +kernel
theorem d_Mo_holds_134 : decode b_Mo_holds 134 = .ok (.if_icmp .ne 17, 3) := by decide +kernel
theorem d_Mo_holds_137 : decode b_Mo_holds 137 = .ok (.goto 10, 3) := by decide +kernel
theorem d_Mo_holds_140 : decode b_Mo_holds 140 = .ok (.iload 6, 2) := by decide +kernel
theorem d_Mo_holds_142 : decode b_Mo_holds 142 = .ok (.iload 7, 2) := by decide +kernel
theorem d_Mo_holds_144 : decode b_Mo_holds 144 = .ok (.if_icmp .eq 7, 3) := by decide +kernel
theorem d_Mo_holds_147 : decode b_Mo_holds 147 = .ok (.iconst 1, 1) := by decide +kernel
theorem d_Mo_holds_148 : decode b_Mo_holds 148 = .ok (.goto 4, 3) := by decide +kernel
theorem d_Mo_holds_151 : decode b_Mo_holds 151 = .ok (.iconst 0, 1) := by decide +kernel
theorem d_Mo_holds_152 : decode b_Mo_holds 152 = .ok (.istore_n 3, 1) := by decide +kernel
theorem d_Mo_holds_153 : decode b_Mo_holds 153 = .ok (.iinc 4 1, 3) := by decide +kernel
theorem d_Mo_holds_156 : decode b_Mo_holds 156 = .ok (.goto (-151), 3) := by decide +kernel
theorem d_Mo_holds_159 : decode b_Mo_holds 159 = .ok (.iload_n 3, 1) := by decide +kernel
theorem d_Mo_holds_160 : decode b_Mo_holds 160 = .ok (.ireturn, 1) := by decide +kernel
theorem d_Mo_find_0 : decode b_Mo_find 0 = .ok (.iconst 0, 1) := by decide +kernel
theorem d_Mo_find_1 : decode b_Mo_find 1 = .ok (.istore_n 1, 1) := by decide +kernel
theorem d_Mo_find_2 : decode b_Mo_find 2 = .ok (.iload_n 1, 1) := by decide +kernel
theorem d_Mo_find_3 : decode b_Mo_find 3 = .ok (.aload_n 0, 1) := by decide +kernel
theorem d_Mo_find_4 : decode b_Mo_find 4 = .ok (.getfield 198, 3) := by decide +kernel
theorem d_Mo_find_7 : decode b_Mo_find 7 = .ok (.if_icmp .ge 66, 3) := by decide +kernel
theorem d_Mo_find_10 : decode b_Mo_find 10 = .ok (.aload_n 0, 1) := by decide +kernel
theorem d_Mo_find_11 : decode b_Mo_find 11 = .ok (.getfield 60, 3) := by decide +kernel
theorem d_Mo_find_14 : decode b_Mo_find 14 = .ok (.iconst 3, 1) := by decide +kernel
theorem d_Mo_find_15 : decode b_Mo_find 15 = .ok (.iload_n 1, 1) := by decide +kernel
theorem d_Mo_find_16 : decode b_Mo_find 16 = .ok (.imul, 1) := by decide +kernel
theorem d_Mo_find_17 : decode b_Mo_find 17 = .ok (.iaload, 1) := by decide +kernel
theorem d_Mo_find_18 : decode b_Mo_find 18 = .ok (.aload_n 0, 1) := by decide +kernel
theorem d_Mo_find_19 : decode b_Mo_find 19 = .ok (.getfield 78, 3) := by decide +kernel
theorem d_Mo_find_22 : decode b_Mo_find 22 = .ok (.iconst 0, 1) := by decide +kernel
theorem d_Mo_find_23 : decode b_Mo_find 23 = .ok (.iaload, 1) := by decide +kernel
theorem d_Mo_find_24 : decode b_Mo_find 24 = .ok (.if_icmp .ne 43, 3) := by decide +kernel
theorem d_Mo_find_27 : decode b_Mo_find 27 = .ok (.aload_n 0, 1) := by decide +kernel
theorem d_Mo_find_28 : decode b_Mo_find 28 = .ok (.getfield 60, 3) := by decide +kernel
theorem d_Mo_find_31 : decode b_Mo_find 31 = .ok (.iconst 3, 1) := by decide +kernel
theorem d_Mo_find_32 : decode b_Mo_find 32 = .ok (.iload_n 1, 1) := by decide +kernel
theorem d_Mo_find_33 : decode b_Mo_find 33 = .ok (.imul, 1) := by decide +kernel
theorem d_Mo_find_34 : decode b_Mo_find 34 = .ok (.iconst 1, 1) := by decide +kernel
theorem d_Mo_find_35 : decode b_Mo_find 35 = .ok (.iadd, 1) := by decide +kernel
theorem d_Mo_find_36 : decode b_Mo_find 36 = .ok (.iaload, 1) := by decide +kernel
theorem d_Mo_find_37 : decode b_Mo_find 37 = .ok (.aload_n 0, 1) := by decide +kernel
theorem d_Mo_find_38 : decode b_Mo_find 38 = .ok (.getfield 78, 3) := by decide +kernel
theorem d_Mo_find_41 : decode b_Mo_find 41 = .ok (.iconst 1, 1) := by decide +kernel
theorem d_Mo_find_42 : decode b_Mo_find 42 = .ok (.iaload, 1) := by decide +kernel
theorem d_Mo_find_43 : decode b_Mo_find 43 = .ok (.if_icmp .ne 24, 3) := by decide +kernel
theorem d_Mo_find_46 : decode b_Mo_find 46 = .ok (.aload_n 0, 1) := by decide +kernel
theorem d_Mo_find_47 : decode b_Mo_find 47 = .ok (.getfield 60, 3) := by decide +kernel
theorem d_Mo_find_50 : decode b_Mo_find 50 = .ok (.iconst 3, 1) := by decide +kernel
theorem d_Mo_find_51 : decode b_Mo_find 51 = .ok (.iload_n 1, 1) := by decide +kernel
theorem d_Mo_find_52 : decode b_Mo_find 52 = .ok (.imul, 1) := by decide +kernel
theorem d_Mo_find_53 : decode b_Mo_find 53 = .ok (.iconst 2, 1) := by decide +kernel
theorem d_Mo_find_54 : decode b_Mo_find 54 = .ok (.iadd, 1) := by decide +kernel
theorem d_Mo_find_55 : decode b_Mo_find 55 = .ok (.iaload, 1) := by decide +kernel
theorem d_Mo_find_56 : decode b_Mo_find 56 = .ok (.aload_n 0, 1) := by decide +kernel
theorem d_Mo_find_57 : decode b_Mo_find 57 = .ok (.getfield 78, 3) := by decide +kernel
theorem d_Mo_find_60 : decode b_Mo_find 60 = .ok (.iconst 2, 1) := by decide +kernel
theorem d_Mo_find_61 : decode b_Mo_find 61 = .ok (.iaload, 1) := by decide +kernel
theorem d_Mo_find_62 : decode b_Mo_find 62 = .ok (.if_icmp .ne 5, 3) := by decide +kernel
theorem d_Mo_find_65 : decode b_Mo_find 65 = .ok (.iload_n 1, 1) := by decide +kernel
theorem d_Mo_find_66 : decode b_Mo_find 66 = .ok (.ireturn, 1) := by decide +kernel
theorem d_Mo_find_67 : decode b_Mo_find 67 = .ok (.iinc 1 1, 3) := by decide +kernel
theorem d_Mo_find_70 : decode b_Mo_find 70 = .ok (.goto (-68), 3) := by decide +kernel
theorem d_Mo_find_73 : decode b_Mo_find 73 = .ok (.aload_n 0, 1) := by decide +kernel
theorem d_Mo_find_74 : decode b_Mo_find 74 = .ok (.getfield 198, 3) := by decide +kernel
theorem d_Mo_find_77 : decode b_Mo_find 77 = .ok (.bipush 8, 2) := by decide +kernel
theorem d_Mo_find_79 : decode b_Mo_find 79 = .ok (.if_icmp .ne 5, 3) := by decide +kernel
theorem d_Mo_find_82 : decode b_Mo_find 82 = .ok (.iconst (-1), 1) := by decide +kernel
theorem d_Mo_find_83 : decode b_Mo_find 83 = .ok (.ireturn, 1) := by decide +kernel
theorem d_Mo_find_84 : decode b_Mo_find 84 = .ok (.iconst 0, 1) := by decide +kernel
theorem d_Mo_find_85 : decode b_Mo_find 85 = .ok (.istore_n 1, 1) := by decide +kernel
theorem d_Mo_find_86 : decode b_Mo_find 86 = .ok (.iload_n 1, 1) := by decide +kernel
theorem d_Mo_find_87 : decode b_Mo_find 87 = .ok (.iconst 3, 1) := by decide +kernel
theorem d_Mo_find_88 : decode b_Mo_find 88 = .ok (.if_icmp .ge 28, 3) := by decide +kernel
theorem d_Mo_find_91 : decode b_Mo_find 91 = .ok (.aload_n 0, 1) := by decide +kernel
theorem d_Mo_find_92 : decode b_Mo_find 92 = .ok (.getfield 60, 3) := by decide +kernel
theorem d_Mo_find_95 : decode b_Mo_find 95 = .ok (.iconst 3, 1) := by decide +kernel
theorem d_Mo_find_96 : decode b_Mo_find 96 = .ok (.aload_n 0, 1) := by decide +kernel
theorem d_Mo_find_97 : decode b_Mo_find 97 = .ok (.getfield 198, 3) := by decide +kernel
theorem d_Mo_find_100 : decode b_Mo_find 100 = .ok (.imul, 1) := by decide +kernel
theorem d_Mo_find_101 : decode b_Mo_find 101 = .ok (.iload_n 1, 1) := by decide +kernel
theorem d_Mo_find_102 : decode b_Mo_find 102 = .ok (.iadd, 1) := by decide +kernel
theorem d_Mo_find_103 : decode b_Mo_find 103 = .ok (.aload_n 0, 1) := by decide +kernel
theorem d_Mo_find_104 : decode b_Mo_find 104 = .ok (.getfield 78, 3) := by decide +kernel
theorem d_Mo_find_107 : decode b_Mo_find 107 = .ok (.iload_n 1, 1) := by decide +kernel
theorem d_Mo_find_108 : decode b_Mo_find 108 = .ok (.iaload, 1) := by decide +kernel
theorem d_Mo_find_109 : decode b_Mo_find 109 = .ok (.iastore, 1) := by decide +kernel
theorem d_Mo_find_110 : decode b_Mo_find 110 = .ok (.iinc 1 1, 3) := by decide +kernel
theorem d_Mo_find_113 : decode b_Mo_find 113 = .ok (.goto (-27), 3) := by decide +kernel
theorem d_Mo_find_116 : decode b_Mo_find 116 = .ok (.aload_n 0, 1) := by decide +kernel
theorem d_Mo_find_117 : decode b_Mo_find 117 = .ok (.getfield 63, 3) := by decide +kernel
theorem d_Mo_find_120 : decode b_Mo_find 120 = .ok (.aload_n 0, 1) := by decide +kernel
theorem d_Mo_find_121 : decode b_Mo_find 121 = .ok (.getfield 198, 3) := by decide +kernel
theorem d_Mo_find_124 : decode b_Mo_find 124 = .ok (.aload_n 0, 1) := by decide +kernel
theorem d_Mo_find_125 : decode b_Mo_find 125 = .ok (.bipush 10, 2) := by decide +kernel
theorem d_Mo_find_127 : decode b_Mo_find 127 = .ok (.aload_n 0, 1) := by decide +kernel
theorem d_Mo_find_128 : decode b_Mo_find 128 = .ok (.getfield 198, 3) := by decide +kernel
theorem d_Mo_find_131 : decode b_Mo_find 131 = .ok (.invokevirtual 209, 3) := by decide +kernel
theorem d_Mo_find_134 : decode b_Mo_find 134 = .ok (.bastore, 1) := by decide +kernel
theorem d_Mo_find_135 : decode b_Mo_find 135 = .ok (.aload_n 0, 1) := by decide +kernel
theorem d_Mo_find_136 : decode b_Mo_find 136 = .ok (.getfield 72, 3) := by decide +kernel
theorem d_Mo_find_139 : decode b_Mo_find 139 = .ok (.aload_n 0, 1) := by decide +kernel
theorem d_Mo_find_140 : decode b_Mo_find 140 = .ok (.getfield 198, 3) := by decide +kernel
theorem d_Mo_find_143 : decode b_Mo_find 143 = .ok (.iconst 0, 1) := by decide +kernel
theorem d_Mo_find_144 : decode b_Mo_find 144 = .ok (.iastore, 1) := by decide +kernel
theorem d_Mo_find_145 : decode b_Mo_find 145 = .ok (.aload_n 0, 1) := by decide +kernel
theorem d_Mo_find_146 : decode b_Mo_find 146 = .ok (.getfield 66, 3) := by decide +kernel
theorem d_Mo_find_149 : decode b_Mo_find 149 = .ok (.aload_n 0, 1) := by decide +kernel
theorem d_Mo_find_150 : decode b_Mo_find 150 = .ok (.getfield 198, 3) := by decide +kernel
theorem d_Mo_find_153 : decode b_Mo_find 153 = .ok (.iconst 0, 1) := by decide +kernel
theorem d_Mo_find_154 : decode b_Mo_find 154 = .ok (.bastore, 1) := by decide +kernel
theorem d_Mo_find_155 : decode b_Mo_find 155 = .ok (.bipush 40, 2) := by decide +kernel
theorem d_Mo_find_157 : decode b_Mo_find 157 = .ok (.aload_n 0, 1) := by decide +kernel
theorem d_Mo_find_158 : decode b_Mo_find 158 = .ok (.getfield 198, 3) := by decide +kernel
theorem d_Mo_find_161 : decode b_Mo_find 161 = .ok (.imul, 1) := by decide +kernel
theorem d_Mo_find_162 : decode b_Mo_find 162 = .ok (.istore_n 1, 1) := by decide +kernel
theorem d_Mo_find_163 : decode b_Mo_find 163 = .ok (.iload_n 1, 1) := by decide +kernel
theorem d_Mo_find_164 : decode b_Mo_find 164 = .ok (.bipush 40, 2) := by decide +kernel
theorem d_Mo_find_166 : decode b_Mo_find 166 = .ok (.aload_n 0, 1) := by decide +kernel
theorem d_Mo_find_167 : decode b_Mo_find 167 = .ok (.getfield 198, 3) := by decide +kernel
theorem d_Mo_find_170 : decode b_Mo_find 170 = .ok (.imul, 1) := by decide +kernel
theorem d_Mo_find_171 : decode b_Mo_find 171 = .ok (.bipush 40, 2) := by decide +kernel
theorem d_Mo_find_173 : decode b_Mo_find 173 = .ok (.iadd, 1) := by decide +kernel
theorem d_Mo_find_174 : decode b_Mo_find 174 = .ok (.if_icmp .ge 16, 3) := by decide +kernel
theorem d_Mo_find_177 : decode b_Mo_find 177 = .ok (.aload_n 0, 1) := by decide +kernel
theorem d_Mo_find_178 : decode b_Mo_find 178 = .ok (.getfield 75, 3) := by decide +kernel
theorem d_Mo_find_181 : decode b_Mo_find 181 = .ok (.iload_n 1, 1) := by decide +kernel
theorem d_Mo_find_182 : decode b_Mo_find 182 = .ok (.iconst (-1), 1) := by decide +kernel
theorem d_Mo_find_183 : decode b_Mo_find 183 = .ok (.iastore, 1) := by decide +kernel
theorem d_Mo_find_184 : decode b_Mo_find 184 = .ok (.iinc 1 1, 3) := by decide +kernel
theorem d_Mo_find_187 : decode b_Mo_find 187 = .ok (.goto (-24), 3) := by decide +kernel
theorem d_Mo_find_190 : decode b_Mo_find 190 = .ok (.aload_n 0, 1) := by decide +kernel
theorem d_Mo_find_191 : decode b_Mo_find 191 = .ok (.dup, 1) := by decide +kernel
theorem d_Mo_find_192 : decode b_Mo_find 192 = .ok (.getfield 198, 3) := by decide +kernel
theorem d_Mo_find_195 : decode b_Mo_find 195 = .ok (.iconst 1, 1) := by decide +kernel
theorem d_Mo_find_196 : decode b_Mo_find 196 = .ok (.iadd, 1) := by decide +kernel
theorem d_Mo_find_197 : decode b_Mo_find 197 = .ok (.putfield 198, 3) := by decide +kernel
theorem d_Mo_find_200 : decode b_Mo_find 200 = .ok (.aload_n 0, 1) := by decide +kernel
theorem d_Mo_find_201 : decode b_Mo_find 201 = .ok (.getfield 198, 3) := by decide +kernel
theorem d_Mo_find_204 : decode b_Mo_find 204 = .ok (.iconst 1, 1) := by decide +kernel
theorem d_Mo_find_205 : decode b_Mo_find 205 = .ok (.isub, 1) := by decide +kernel
theorem d_Mo_find_206 : decode b_Mo_find 206 = .ok (.ireturn, 1) := by decide +kernel
theorem d_Mo_enable_0 : decode b_Mo_enable 0 = .ok (.iconst 0, 1) := by decide +kernel
theorem d_Mo_enable_1 : decode b_Mo_enable 1 = .ok (.istore_n 2, 1) := by decide +kernel
theorem d_Mo_enable_2 : decode b_Mo_enable 2 = .ok (.iconst 0, 1) := by decide +kernel
theorem d_Mo_enable_3 : decode b_Mo_enable 3 = .ok (.istore_n 3, 1) := by decide +kernel
theorem d_Mo_enable_4 : decode b_Mo_enable 4 = .ok (.iload_n 3, 1) := by decide +kernel
theorem d_Mo_enable_5 : decode b_Mo_enable 5 = .ok (.aload_n 0, 1) := by decide +kernel
theorem d_Mo_enable_6 : decode b_Mo_enable 6 = .ok (.getfield 26, 3) := by decide +kernel
theorem d_Mo_enable_9 : decode b_Mo_enable 9 = .ok (.aload_n 0, 1) := by decide +kernel
theorem d_Mo_enable_10 : decode b_Mo_enable 10 = .ok (.getfield 17, 3) := by decide +kernel
theorem d_Mo_enable_13 : decode b_Mo_enable 13 = .ok (.iaload, 1) := by decide +kernel
theorem d_Mo_enable_14 : decode b_Mo_enable 14 = .ok (.if_icmp .ge 118, 3) := by decide +kernel
theorem d_Mo_enable_17 : decode b_Mo_enable 17 = .ok (.aload_n 0, 1) := by decide +kernel
theorem d_Mo_enable_18 : decode b_Mo_enable 18 = .ok (.getfield 63, 3) := by decide +kernel
theorem d_Mo_enable_21 : decode b_Mo_enable 21 = .ok (.iload_n 1, 1) := by decide +kernel
theorem d_Mo_enable_22 : decode b_Mo_enable 22 = .ok (.baload, 1) := by decide +kernel
theorem d_Mo_enable_23 : decode b_Mo_enable 23 = .ok (.ifCond .ne 103, 3) := by decide +kernel
theorem d_Mo_enable_26 : decode b_Mo_enable 26 = .ok (.aload_n 0, 1) := by decide +kernel
theorem d_Mo_enable_27 : decode b_Mo_enable 27 = .ok (.iload_n 3, 1) := by decide +kernel
theorem d_Mo_enable_28 : decode b_Mo_enable 28 = .ok (.iload_n 1, 1) := by decide +kernel
theorem d_Mo_enable_29 : decode b_Mo_enable 29 = .ok (.invokevirtual 209, 3) := by decide +kernel
theorem d_Mo_enable_32 : decode b_Mo_enable 32 = .ok (.ifCond .eq 94, 3) := by decide +kernel
theorem d_Mo_enable_35 : decode b_Mo_enable 35 = .ok (.aload_n 0, 1) := by decide +kernel
theorem d_Mo_enable_36 : decode b_Mo_enable 36 = .ok (.getfield 69, 3) := by decide +kernel
theorem d_Mo_enable_39 : decode b_Mo_enable 39 = .ok (.bipush 10, 2) := by decide +kernel
theorem d_Mo_enable_41 : decode b_Mo_enable 41 = .ok (.iload_n 1, 1) := by decide +kernel
theorem d_Mo_enable_42 : decode b_Mo_enable 42 = .ok (.imul, 1) := by decide +kernel
theorem d_Mo_enable_43 : decode b_Mo_enable 43 = .ok (.aload_n 0, 1) := by decide +kernel
theorem d_Mo_enable_44 : decode b_Mo_enable 44 = .ok (.getfield 72, 3) := by decide +kernel
theorem d_Mo_enable_47 : decode b_Mo_enable 47 = .ok (.iload_n 1, 1) := by decide +kernel
theorem d_Mo_enable_48 : decode b_Mo_enable 48 = .ok (.iaload, 1) := by decide +kernel
theorem d_Mo_enable_49 : decode b_Mo_enable 49 = .ok (.iadd, 1) := by decide +kernel
theorem d_Mo_enable_50 : decode b_Mo_enable 50 = .ok (.iload_n 3, 1) := by decide +kernel
theorem d_Mo_enable_51 : decode b_Mo_enable 51 = .ok (.iastore, 1) := by decide +kernel
theorem d_Mo_enable_52 : decode b_Mo_enable 52 = .ok (.aload_n 0, 1) := by decide +kernel
theorem d_Mo_enable_53 : decode b_Mo_enable 53 = .ok (.getfield 72, 3) := by decide +kernel
theorem d_Mo_enable_56 : decode b_Mo_enable 56 = .ok (.iload_n 1, 1) := by decide +kernel
theorem d_Mo_enable_57 : decode b_Mo_enable 57 = .ok (.dup2, 1) := by decide +kernel
theorem d_Mo_enable_58 : decode b_Mo_enable 58 = .ok (.iaload, 1) := by decide +kernel
theorem d_Mo_enable_59 : decode b_Mo_enable 59 = .ok (.iconst 1, 1) := by decide +kernel
theorem d_Mo_enable_60 : decode b_Mo_enable 60 = .ok (.iadd, 1) := by decide +kernel
theorem d_Mo_enable_61 : decode b_Mo_enable 61 = .ok (.iastore, 1) := by decide +kernel
theorem d_Mo_enable_62 : decode b_Mo_enable 62 = .ok (.aload_n 0, 1) := by decide +kernel
theorem d_Mo_enable_63 : decode b_Mo_enable 63 = .ok (.getfield 66, 3) := by decide +kernel
theorem d_Mo_enable_66 : decode b_Mo_enable 66 = .ok (.iload_n 1, 1) := by decide +kernel
theorem d_Mo_enable_67 : decode b_Mo_enable 67 = .ok (.aload_n 0, 1) := by decide +kernel
theorem d_Mo_enable_68 : decode b_Mo_enable 68 = .ok (.getfield 66, 3) := by decide +kernel
theorem d_Mo_enable_71 : decode b_Mo_enable 71 = .ok (.iload_n 1, 1) := by decide +kernel
theorem d_Mo_enable_72 : decode b_Mo_enable 72 = .ok (.baload, 1) := by decide +kernel
theorem d_Mo_enable_73 : decode b_Mo_enable 73 = .ok (.ifCond .ne 20, 3) := by decide +kernel
theorem d_Mo_enable_76 : decode b_Mo_enable 76 = .ok (.aload_n 0, 1) := by decide +kernel
theorem d_Mo_enable_77 : decode b_Mo_enable 77 = .ok (.getfield 29, 3) := by decide +kernel
theorem d_Mo_enable_80 : decode b_Mo_enable 80 = .ok (.bipush 10, 2) := by decide +kernel
theorem d_Mo_enable_82 : decode b_Mo_enable 82 = .ok (.aload_n 0, 1) := by decide +kernel
theorem d_Mo_enable_83 : decode b_Mo_enable 83 = .ok (.getfield 17, 3) := by decide +kernel
theorem d_Mo_enable_86 : decode b_Mo_enable 86 = .ok (.imul, 1) := by decide +kernel
theorem d_Mo_enable_87 : decode b_Mo_enable 87 = .ok (.iload_n 3, 1) := by decide +kernel
theorem d_Mo_enable_88 : decode b_Mo_enable 88 = .ok (.iadd, 1) := by decide +kernel
theorem d_Mo_enable_89 : decode b_Mo_enable 89 = .ok (.baload, 1) := by decide +kernel
theorem d_Mo_enable_90 : decode b_Mo_enable 90 = .ok (.ifCond .eq 7, 3) := by decide +kernel
theorem d_Mo_enable_93 : decode b_Mo_enable 93 = .ok (.iconst 1, 1) := by decide +kernel
theorem d_Mo_enable_94 : decode b_Mo_enable 94 = .ok (.goto 4, 3) := by decide +kernel
theorem d_Mo_enable_97 : decode b_Mo_enable 97 = .ok (.iconst 0, 1) := by decide +kernel
theorem d_Mo_enable_98 : decode b_Mo_enable 98 = .ok (.bastore, 1) := by decide +kernel
theorem d_Mo_enable_99 : decode b_Mo_enable 99 = .ok (.iload_n 2, 1) := by decide +kernel
theorem d_Mo_enable_100 : decode b_Mo_enable 100 = .ok (.ifCond .ne 20, 3) := by decide +kernel
theorem d_Mo_enable_103 : decode b_Mo_enable 103 = .ok (.aload_n 0, 1) := by decide +kernel
theorem d_Mo_enable_104 : decode b_Mo_enable 104 = .ok (.getfield 29, 3) := by decide +kernel
theorem d_Mo_enable_107 : decode b_Mo_enable 107 = .ok (.bipush 10, 2) := by decide +kernel
theorem d_Mo_enable_109 : decode b_Mo_enable 109 = .ok (.aload_n 0, 1) := by decide +kernel
theorem d_Mo_enable_110 : decode b_Mo_enable 110 = .ok (.getfield 17, 3) := by decide +kernel
theorem d_Mo_enable_113 : decode b_Mo_enable 113 = .ok (.imul, 1) := by decide +kernel
theorem d_Mo_enable_114 : decode b_Mo_enable 114 = .ok (.iload_n 3, 1) := by decide +kernel
theorem d_Mo_enable_115 : decode b_Mo_enable 115 = .ok (.iadd, 1) := by decide +kernel
theorem d_Mo_enable_116 : decode b_Mo_enable 116 = .ok (.baload, 1) := by decide +kernel
theorem d_Mo_enable_117 : decode b_Mo_enable 117 = .ok (.ifCond .ne 7, 3) := by decide +kernel
theorem d_Mo_enable_120 : decode b_Mo_enable 120 = .ok (.iconst 1, 1) := by decide +kernel
theorem d_Mo_enable_121 : decode b_Mo_enable 121 = .ok (.goto 4, 3) := by decide +kernel
theorem d_Mo_enable_124 : decode b_Mo_enable 124 = .ok (.iconst 0, 1) := by decide +kernel
theorem d_Mo_enable_125 : decode b_Mo_enable 125 = .ok (.istore_n 2, 1) := by decide +kernel
theorem d_Mo_enable_126 : decode b_Mo_enable 126 = .ok (.iinc 3 1, 3) := by decide +kernel
theorem d_Mo_enable_129 : decode b_Mo_enable 129 = .ok (.goto (-125), 3) := by decide +kernel
theorem d_Mo_enable_132 : decode b_Mo_enable 132 = .ok (.aload_n 0, 1) := by decide +kernel
theorem d_Mo_enable_133 : decode b_Mo_enable 133 = .ok (.getfield 66, 3) := by decide +kernel
theorem d_Mo_enable_136 : decode b_Mo_enable 136 = .ok (.iload_n 1, 1) := by decide +kernel
theorem d_Mo_enable_137 : decode b_Mo_enable 137 = .ok (.baload, 1) := by decide +kernel
theorem d_Mo_enable_138 : decode b_Mo_enable 138 = .ok (.ifCond .eq 11, 3) := by decide +kernel
theorem d_Mo_enable_141 : decode b_Mo_enable 141 = .ok (.iload_n 2, 1) := by decide +kernel
theorem d_Mo_enable_142 : decode b_Mo_enable 142 = .ok (.ifCond .eq 7, 3) := by decide +kernel
theorem d_Mo_enable_145 : decode b_Mo_enable 145 = .ok (.iconst 1, 1) := by decide +kernel
theorem d_Mo_enable_146 : decode b_Mo_enable 146 = .ok (.goto 4, 3) := by decide +kernel
theorem d_Mo_enable_149 : decode b_Mo_enable 149 = .ok (.iconst 0, 1) := by decide +kernel
theorem d_Mo_enable_150 : decode b_Mo_enable 150 = .ok (.ireturn, 1) := by decide +kernel
theorem d_Mo_takeBranch_0 : decode b_Mo_takeBranch 0 = .ok (.iconst 0, 1) := by decide +kernel
theorem d_Mo_takeBranch_1 : decode b_Mo_takeBranch 1 = .ok (.istore 4, 2) := by decide +kernel
theorem d_Mo_takeBranch_3 : decode b_Mo_takeBranch 3 = .ok (.iload 4, 2) := by decide +kernel
theorem d_Mo_takeBranch_5 : decode b_Mo_takeBranch 5 = .ok (.iconst 3, 1) := by decide +kernel
theorem d_Mo_takeBranch_6 : decode b_Mo_takeBranch 6 = .ok (.if_icmp .ge 111, 3) := by decide +kernel
theorem d_Mo_takeBranch_9 : decode b_Mo_takeBranch 9 = .ok (.aload_n 0, 1) := by decide +kernel
theorem d_Mo_takeBranch_10 : decode b_Mo_takeBranch 10 = .ok (.getfield 17, 3) := by decide +kernel
theorem d_Mo_takeBranch_13 : decode b_Mo_takeBranch 13 = .ok (.iload_n 2, 1) := by decide +kernel
theorem d_Mo_takeBranch_14 : decode b_Mo_takeBranch 14 = .ok (.iload_n 3, 1) := by decide +kernel
theorem d_Mo_takeBranch_15 : decode b_Mo_takeBranch 15 = .ok (.iload 4, 2) := by decide +kernel
theorem d_Mo_takeBranch_17 : decode b_Mo_takeBranch 17 = .ok (.invokestatic 172, 3) := by decide +kernel
theorem d_Mo_takeBranch_20 : decode b_Mo_takeBranch 20 = .ok (.istore 5, 2) := by decide +kernel
theorem d_Mo_takeBranch_22 : decode b_Mo_takeBranch 22 = .ok (.aload_n 0, 1) := by decide +kernel
theorem d_Mo_takeBranch_23 : decode b_Mo_takeBranch 23 = .ok (.getfield 48, 3) := by decide +kernel
theorem d_Mo_takeBranch_26 : decode b_Mo_takeBranch 26 = .ok (.iload 5, 2) := by decide +kernel
theorem d_Mo_takeBranch_28 : decode b_Mo_takeBranch 28 = .ok (.iaload, 1) := by decide +kernel
theorem d_Mo_takeBranch_29 : decode b_Mo_takeBranch 29 = .ok (.ifCond .le 13, 3) := by decide +kernel
theorem d_Mo_takeBranch_32 : decode b_Mo_takeBranch 32 = .ok (.aload_n 0, 1) := by decide +kernel
theorem d_Mo_takeBranch_33 : decode b_Mo_takeBranch 33 = .ok (.iload 5, 2) := by decide +kernel
theorem d_Mo_takeBranch_35 : decode b_Mo_takeBranch 35 = .ok (.iload_n 1, 1) := by decide +kernel
theorem d_Mo_takeBranch_36 : decode b_Mo_takeBranch 36 = .ok (.invokevirtual 205, 3) := by decide +kernel
theorem d_Mo_takeBranch_39 : decode b_Mo_takeBranch 39 = .ok (.goto 14, 3) := by decide +kernel
theorem d_Mo_takeBranch_42 : decode b_Mo_takeBranch 42 = .ok (.aload_n 0, 1) := by decide +kernel
theorem d_Mo_takeBranch_43 : decode b_Mo_takeBranch 43 = .ok (.getfield 60, 3) := by decide +kernel
theorem d_Mo_takeBranch_46 : decode b_Mo_takeBranch 46 = .ok (.iconst 3, 1) := by decide +kernel
theorem d_Mo_takeBranch_47 : decode b_Mo_takeBranch 47 = .ok (.iload_n 1, 1) := by decide +kernel
theorem d_Mo_takeBranch_48 : decode b_Mo_takeBranch 48 = .ok (.imul, 1) := by decide +kernel
theorem d_Mo_takeBranch_49 : decode b_Mo_takeBranch 49 = .ok (.iload 4, 2) := by decide +kernel
theorem d_Mo_takeBranch_51 : decode b_Mo_takeBranch 51 = .ok (.iadd, 1) := by decide +kernel
theorem d_Mo_takeBranch_52 : decode b_Mo_takeBranch 52 = .ok (.iaload, 1) := by decide +kernel
theorem d_Mo_takeBranch_53 : decode b_Mo_takeBranch 53 = .ok (.istore 6, 2) := by decide +kernel
theorem d_Mo_takeBranch_55 : decode b_Mo_takeBranch 55 = .ok (.aload_n 0, 1) := by decide +kernel
theorem d_Mo_takeBranch_56 : decode b_Mo_takeBranch 56 = .ok (.getfield 20, 3) := by decide +kernel
theorem d_Mo_takeBranch_59 : decode b_Mo_takeBranch 59 = .ok (.iconst 3, 1) := by decide +kernel
theorem d_Mo_takeBranch_60 : decode b_Mo_takeBranch 60 = .ok (.aload_n 0, 1) := by decide +kernel
theorem d_Mo_takeBranch_61 : decode b_Mo_takeBranch 61 = .ok (.getfield 17, 3) := by decide +kernel
theorem d_Mo_takeBranch_64 : decode b_Mo_takeBranch 64 = .ok (.imul, 1) := by decide +kernel
theorem d_Mo_takeBranch_65 : decode b_Mo_takeBranch 65 = .ok (.iload 4, 2) := by decide +kernel
theorem d_Mo_takeBranch_67 : decode b_Mo_takeBranch 67 = .ok (.iadd, 1) := by decide +kernel
theorem d_Mo_takeBranch_68 : decode b_Mo_takeBranch 68 = .ok (.iaload, 1) := by decide +kernel
theorem d_Mo_takeBranch_69 : decode b_Mo_takeBranch 69 = .ok (.istore 7, 2) := by decide +kernel
theorem d_Mo_takeBranch_71 : decode b_Mo_takeBranch 71 = .ok (.aload_n 0, 1) := by decide +kernel
theorem d_Mo_takeBranch_72 : decode b_Mo_takeBranch 72 = .ok (.getfield 78, 3) := by decide +kernel
theorem d_Mo_takeBranch_75 : decode b_Mo_takeBranch 75 = .ok (.iload 4, 2) := by decide +kernel
theorem d_Mo_takeBranch_77 : decode b_Mo_takeBranch 77 = .ok (.iload 6, 2) := by decide +kernel
theorem d_Mo_takeBranch_79 : decode b_Mo_takeBranch 79 = .ok (.iload 7, 2) := by decide +kernel
theorem d_Mo_takeBranch_81 : decode b_Mo_takeBranch 81 = .ok (.if_icmp .le 18, 3) := by decide +kernel
theorem d_Mo_takeBranch_84 : decode b_Mo_takeBranch 84 = .ok (.aload_n 0, 1) := by decide +kernel
theorem d_Mo_takeBranch_85 : decode b_Mo_takeBranch 85 = .ok (.getfield 48, 3) := by decide +kernel
theorem d_Mo_takeBranch_88 : decode b_Mo_takeBranch 88 = .ok (.iload 5, 2) := by decide +kernel
theorem d_Mo_takeBranch_90 : decode b_Mo_takeBranch 90 = .ok (.iaload, 1) := by decide +kernel
theorem d_Mo_takeBranch_91 : decode b_Mo_takeBranch 91 = .ok (.ifCond .le 8, 3) := by decide +kernel
theorem d_Mo_takeBranch_94 : decode b_Mo_takeBranch 94 = .ok (.iload 7, 2) := by decide +kernel
theorem d_Mo_takeBranch_96 : decode b_Mo_takeBranch 96 = .ok (.goto 14, 3) := by decide +kernel
theorem d_Mo_takeBranch_99 : decode b_Mo_takeBranch 99 = .ok (.iload 6, 2) := by decide +kernel
theorem d_Mo_takeBranch_101 : decode b_Mo_takeBranch 101 = .ok (.ifCond .ge 7, 3) := by decide +kernel
theorem d_Mo_takeBranch_104 : decode b_Mo_takeBranch 104 = .ok (.iconst 0, 1) := by decide +kernel
theorem d_Mo_takeBranch_105 : decode b_Mo_takeBranch 105 = .ok (.goto 5, 3) := by decide +kernel
theorem d_Mo_takeBranch_108 : decode b_Mo_takeBranch 108 = .ok (.iload 6, 2) := by decide +kernel
theorem d_Mo_takeBranch_110 : decode b_Mo_takeBranch 110 = .ok (.iastore, 1) := by decide +kernel
theorem d_Mo_takeBranch_111 : decode b_Mo_takeBranch 111 = .ok (.iinc 4 1, 3) := by decide +kernel
theorem d_Mo_takeBranch_114 : decode b_Mo_takeBranch 114 = .ok (.goto (-111), 3) := by decide +kernel
theorem d_Mo_takeBranch_117 : decode b_Mo_takeBranch 117 = .ok (.return_, 1) := by decide +kernel
theorem d_Mo_follow_0 : decode b_Mo_follow 0 = .ok (.iconst 0, 1) := by decide +kernel
theorem d_Mo_follow_1 : decode b_Mo_follow 1 = .ok (.istore_n 2, 1) := by decide +kernel
theorem d_Mo_follow_2 : decode b_Mo_follow 2 = .ok (.iload_n 2, 1) := by decide +kernel
theorem d_Mo_follow_3 : decode b_Mo_follow 3 = .ok (.aload_n 0, 1) := by decide +kernel
theorem d_Mo_follow_4 : decode b_Mo_follow 4 = .ok (.getfield 72, 3) := by decide +kernel
theorem d_Mo_follow_7 : decode b_Mo_follow 7 = .ok (.iload_n 1, 1) := by decide +kernel
theorem d_Mo_follow_8 : decode b_Mo_follow 8 = .ok (.iaload, 1) := by decide +kernel
theorem d_Mo_follow_9 : decode b_Mo_follow 9 = .ok (.if_icmp .ge 88, 3) := by decide +kernel
theorem d_Mo_follow_12 : decode b_Mo_follow 12 = .ok (.aload_n 0, 1) := by decide +kernel
theorem d_Mo_follow_13 : decode b_Mo_follow 13 = .ok (.getfield 69, 3) := by decide +kernel
theorem d_Mo_follow_16 : decode b_Mo_follow 16 = .ok (.bipush 10, 2) := by decide +kernel
theorem d_Mo_follow_18 : decode b_Mo_follow 18 = .ok (.iload_n 1, 1) := by decide +kernel
theorem d_Mo_follow_19 : decode b_Mo_follow 19 = .ok (.imul, 1) := by decide +kernel
theorem d_Mo_follow_20 : decode b_Mo_follow 20 = .ok (.iload_n 2, 1) := by decide +kernel
theorem d_Mo_follow_21 : decode b_Mo_follow 21 = .ok (.iadd, 1) := by decide +kernel
theorem d_Mo_follow_22 : decode b_Mo_follow 22 = .ok (.iaload, 1) := by decide +kernel
theorem d_Mo_follow_23 : decode b_Mo_follow 23 = .ok (.istore_n 3, 1) := by decide +kernel
theorem d_Mo_follow_24 : decode b_Mo_follow 24 = .ok (.iconst 0, 1) := by decide +kernel
theorem d_Mo_follow_25 : decode b_Mo_follow 25 = .ok (.istore 4, 2) := by decide +kernel
theorem d_Mo_follow_27 : decode b_Mo_follow 27 = .ok (.iload 4, 2) := by decide +kernel
theorem d_Mo_follow_29 : decode b_Mo_follow 29 = .ok (.aload_n 0, 1) := by decide +kernel
theorem d_Mo_follow_30 : decode b_Mo_follow 30 = .ok (.getfield 33, 3) := by decide +kernel
theorem d_Mo_follow_33 : decode b_Mo_follow 33 = .ok (.bipush 10, 2) := by decide +kernel
theorem d_Mo_follow_35 : decode b_Mo_follow 35 = .ok (.aload_n 0, 1) := by decide +kernel
theorem d_Mo_follow_36 : decode b_Mo_follow 36 = .ok (.getfield 17, 3) := by decide +kernel
theorem d_Mo_follow_39 : decode b_Mo_follow 39 = .ok (.imul, 1) := by decide +kernel
theorem d_Mo_follow_40 : decode b_Mo_follow 40 = .ok (.iload_n 3, 1) := by decide +kernel
theorem d_Mo_follow_41 : decode b_Mo_follow 41 = .ok (.iadd, 1) := by decide +kernel
theorem d_Mo_follow_42 : decode b_Mo_follow 42 = .ok (.iaload, 1) := by decide +kernel
theorem d_Mo_follow_43 : decode b_Mo_follow 43 = .ok (.if_icmp .ge 48, 3) := by decide +kernel
theorem d_Mo_follow_46 : decode b_Mo_follow 46 = .ok (.aload_n 0, 1) := by decide +kernel
theorem d_Mo_follow_47 : decode b_Mo_follow 47 = .ok (.iload_n 1, 1) := by decide +kernel
theorem d_Mo_follow_48 : decode b_Mo_follow 48 = .ok (.iload_n 3, 1) := by decide +kernel
theorem d_Mo_follow_49 : decode b_Mo_follow 49 = .ok (.iload 4, 2) := by decide +kernel
theorem d_Mo_follow_51 : decode b_Mo_follow 51 = .ok (.invokevirtual 212, 3) := by decide +kernel
theorem d_Mo_follow_54 : decode b_Mo_follow 54 = .ok (.aload_n 0, 1) := by decide +kernel
theorem d_Mo_follow_55 : decode b_Mo_follow 55 = .ok (.invokevirtual 216, 3) := by decide +kernel
theorem d_Mo_follow_58 : decode b_Mo_follow 58 = .ok (.istore 5, 2) := by decide +kernel
theorem d_Mo_follow_60 : decode b_Mo_follow 60 = .ok (.iload 5, 2) := by decide +kernel
theorem d_Mo_follow_62 : decode b_Mo_follow 62 = .ok (.ifCond .ge 5, 3) := by decide +kernel
theorem d_Mo_follow_65 : decode b_Mo_follow 65 = .ok (.iconst 0, 1) := by decide +kernel
theorem d_Mo_follow_66 : decode b_Mo_follow 66 = .ok (.ireturn, 1) := by decide +kernel
theorem d_Mo_follow_67 : decode b_Mo_follow 67 = .ok (.aload_n 0, 1) := by decide +kernel
theorem d_Mo_follow_68 : decode b_Mo_follow 68 = .ok (.getfield 75, 3) := by decide +kernel
theorem d_Mo_follow_71 : decode b_Mo_follow 71 = .ok (.bipush 40, 2) := by decide +kernel
theorem d_Mo_follow_73 : decode b_Mo_follow 73 = .ok (.iload_n 1, 1) := by decide +kernel
theorem d_Mo_follow_74 : decode b_Mo_follow 74 = .ok (.imul, 1) := by decide +kernel
theorem d_Mo_follow_75 : decode b_Mo_follow 75 = .ok (.iconst 4, 1) := by decide +kernel
theorem d_Mo_follow_76 : decode b_Mo_follow 76 = .ok (.iload_n 2, 1) := by decide +kernel
theorem d_Mo_follow_77 : decode b_Mo_follow 77 = .ok (.imul, 1) := by decide +kernel
theorem d_Mo_follow_78 : decode b_Mo_follow 78 = .ok (.iadd, 1) := by decide +kernel
theorem d_Mo_follow_79 : decode b_Mo_follow 79 = .ok (.iload 4, 2) := by decide +kernel
theorem d_Mo_follow_81 : decode b_Mo_follow 81 = .ok (.iadd, 1) := by decide +kernel
theorem d_Mo_follow_82 : decode b_Mo_follow 82 = .ok (.iload 5, 2) := by decide +kernel
theorem d_Mo_follow_84 : decode b_Mo_follow 84 = .ok (.iastore, 1) := by decide +kernel
theorem d_Mo_follow_85 : decode b_Mo_follow 85 = .ok (.iinc 4 1, 3) := by decide +kernel
theorem d_Mo_follow_88 : decode b_Mo_follow 88 = .ok (.goto (-61), 3) := by decide +kernel
theorem d_Mo_follow_91 : decode b_Mo_follow 91 = .ok (.iinc 2 1, 3) := by decide +kernel
theorem d_Mo_follow_94 : decode b_Mo_follow 94 = .ok (.goto (-92), 3) := by decide +kernel
theorem d_Mo_follow_97 : decode b_Mo_follow 97 = .ok (.iconst 1, 1) := by decide +kernel
theorem d_Mo_follow_98 : decode b_Mo_follow 98 = .ok (.ireturn, 1) := by decide +kernel
theorem d_Mo_explore_0 : decode b_Mo_explore 0 = .ok (.aload_n 0, 1) := by decide +kernel
theorem d_Mo_explore_1 : decode b_Mo_explore 1 = .ok (.iconst 0, 1) := by decide +kernel
theorem d_Mo_explore_2 : decode b_Mo_explore 2 = .ok (.putfield 198, 3) := by decide +kernel
theorem d_Mo_explore_5 : decode b_Mo_explore 5 = .ok (.aload_n 0, 1) := by decide +kernel
theorem d_Mo_explore_6 : decode b_Mo_explore 6 = .ok (.iconst (-1), 1) := by decide +kernel
theorem d_Mo_explore_7 : decode b_Mo_explore 7 = .ok (.putfield 57, 3) := by decide +kernel
theorem d_Mo_explore_10 : decode b_Mo_explore 10 = .ok (.iconst 0, 1) := by decide +kernel
theorem d_Mo_explore_11 : decode b_Mo_explore 11 = .ok (.istore_n 1, 1) := by decide +kernel
theorem d_Mo_explore_12 : decode b_Mo_explore 12 = .ok (.iload_n 1, 1) := by decide +kernel
theorem d_Mo_explore_13 : decode b_Mo_explore 13 = .ok (.iconst 3, 1) := by decide +kernel
theorem d_Mo_explore_14 : decode b_Mo_explore 14 = .ok (.if_icmp .ge 28, 3) := by decide +kernel
theorem d_Mo_explore_17 : decode b_Mo_explore 17 = .ok (.aload_n 0, 1) := by decide +kernel
theorem d_Mo_explore_18 : decode b_Mo_explore 18 = .ok (.getfield 78, 3) := by decide +kernel
theorem d_Mo_explore_21 : decode b_Mo_explore 21 = .ok (.iload_n 1, 1) := by decide +kernel
theorem d_Mo_explore_22 : decode b_Mo_explore 22 = .ok (.aload_n 0, 1) := by decide +kernel
theorem d_Mo_explore_23 : decode b_Mo_explore 23 = .ok (.getfield 23, 3) := by decide +kernel
theorem d_Mo_explore_26 : decode b_Mo_explore 26 = .ok (.iconst 3, 1) := by decide +kernel
theorem d_Mo_explore_27 : decode b_Mo_explore 27 = .ok (.aload_n 0, 1) := by decide +kernel
theorem d_Mo_explore_28 : decode b_Mo_explore 28 = .ok (.getfield 17, 3) := by decide +kernel
theorem d_Mo_explore_31 : decode b_Mo_explore 31 = .ok (.imul, 1) := by decide +kernel
theorem d_Mo_explore_32 : decode b_Mo_explore 32 = .ok (.iload_n 1, 1) := by decide +kernel
theorem d_Mo_explore_33 : decode b_Mo_explore 33 = .ok (.iadd, 1) := by decide +kernel
theorem d_Mo_explore_34 : decode b_Mo_explore 34 = .ok (.iaload, 1) := by decide +kernel
theorem d_Mo_explore_35 : decode b_Mo_explore 35 = .ok (.iastore, 1) := by decide +kernel
theorem d_Mo_explore_36 : decode b_Mo_explore 36 = .ok (.iinc 1 1, 3) := by decide +kernel
theorem d_Mo_explore_39 : decode b_Mo_explore 39 = .ok (.goto (-27), 3) := by decide +kernel
theorem d_Mo_explore_42 : decode b_Mo_explore 42 = .ok (.aload_n 0, 1) := by decide +kernel
theorem d_Mo_explore_43 : decode b_Mo_explore 43 = .ok (.invokevirtual 216, 3) := by decide +kernel
theorem d_Mo_explore_46 : decode b_Mo_explore 46 = .ok (.istore_n 1, 1) := by decide +kernel
theorem d_Mo_explore_47 : decode b_Mo_explore 47 = .ok (.iload_n 1, 1) := by decide +kernel
theorem d_Mo_explore_48 : decode b_Mo_explore 48 = .ok (.aload_n 0, 1) := by decide +kernel
theorem d_Mo_explore_49 : decode b_Mo_explore 49 = .ok (.getfield 198, 3) := by decide +kernel
theorem d_Mo_explore_52 : decode b_Mo_explore 52 = .ok (.if_icmp .ge 36, 3) := by decide +kernel
theorem d_Mo_explore_55 : decode b_Mo_explore 55 = .ok (.aload_n 0, 1) := by decide +kernel
theorem d_Mo_explore_56 : decode b_Mo_explore 56 = .ok (.iload_n 1, 1) := by decide +kernel
theorem d_Mo_explore_57 : decode b_Mo_explore 57 = .ok (.invokevirtual 219, 3) := by decide +kernel
theorem d_Mo_explore_60 : decode b_Mo_explore 60 = .ok (.ifCond .eq 11, 3) := by decide +kernel
theorem d_Mo_explore_63 : decode b_Mo_explore 63 = .ok (.aload_n 0, 1) := by decide +kernel
theorem d_Mo_explore_64 : decode b_Mo_explore 64 = .ok (.iload_n 1, 1) := by decide +kernel
theorem d_Mo_explore_65 : decode b_Mo_explore 65 = .ok (.putfield 57, 3) := by decide +kernel
theorem d_Mo_explore_68 : decode b_Mo_explore 68 = .ok (.bipush (-2), 2) := by decide +kernel
theorem d_Mo_explore_70 : decode b_Mo_explore 70 = .ok (.ireturn, 1) := by decide +kernel
theorem d_Mo_explore_71 : decode b_Mo_explore 71 = .ok (.aload_n 0, 1) := by decide +kernel
theorem d_Mo_explore_72 : decode b_Mo_explore 72 = .ok (.iload_n 1, 1) := by decide +kernel
theorem d_Mo_explore_73 : decode b_Mo_explore 73 = .ok (.invokevirtual 222, 3) := by decide +kernel
theorem d_Mo_explore_76 : decode b_Mo_explore 76 = .ok (.ifCond .ne 6, 3) := by decide +kernel
theorem d_Mo_explore_79 : decode b_Mo_explore 79 = .ok (.bipush (-3), 2) := by decide +kernel
theorem d_Mo_explore_81 : decode b_Mo_explore 81 = .ok (.ireturn, 1) := by decide +kernel
theorem d_Mo_explore_82 : decode b_Mo_explore 82 = .ok (.iinc 1 1, 3) := by decide +kernel
theorem d_Mo_explore_85 : decode b_Mo_explore 85 = .ok (.goto (-38), 3) := by decide +kernel
theorem d_Mo_explore_88 : decode b_Mo_explore 88 = .ok (.aload_n 0, 1) := by decide +kernel
theorem d_Mo_explore_89 : decode b_Mo_explore 89 = .ok (.getfield 198, 3) := by decide +kernel
theorem d_Mo_explore_92 : decode b_Mo_explore 92 = .ok (.ireturn, 1) := by decide +kernel
theorem d_Mo_has_0 : decode b_Mo_has 0 = .ok (.iload_n 0, 1) := by decide +kernel
theorem d_Mo_has_1 : decode b_Mo_has 1 = .ok (.iload_n 1, 1) := by decide +kernel
theorem d_Mo_has_2 : decode b_Mo_has 2 = .ok (.ishr, 1) := by decide +kernel
theorem d_Mo_has_3 : decode b_Mo_has 3 = .ok (.iconst 1, 1) := by decide +kernel
theorem d_Mo_has_4 : decode b_Mo_has 4 = .ok (.iand, 1) := by decide +kernel
theorem d_Mo_has_5 : decode b_Mo_has 5 = .ok (.iconst 1, 1) := by decide +kernel
theorem d_Mo_has_6 : decode b_Mo_has 6 = .ok (.if_icmp .ne 7, 3) := by decide +kernel
theorem d_Mo_has_9 : decode b_Mo_has 9 = .ok (.iconst 1, 1) := by decide +kernel
theorem d_Mo_has_10 : decode b_Mo_has 10 = .ok (.goto 4, 3) := by decide +kernel
theorem d_Mo_has_13 : decode b_Mo_has 13 = .ok (.iconst 0, 1) := by decide +kernel
theorem d_Mo_has_14 : decode b_Mo_has 14 = .ok (.ireturn, 1) := by decide +kernel
theorem d_Mo_leadsToLost_0 : decode b_Mo_leadsToLost 0 = .ok (.iconst 1, 1) := by decide +kernel
theorem d_Mo_leadsToLost_1 : decode b_Mo_leadsToLost 1 = .ok (.istore_n 3, 1) := by decide +kernel
theorem d_Mo_leadsToLost_2 : decode b_Mo_leadsToLost 2 = .ok (.aload_n 0, 1) := by decide +kernel
theorem d_Mo_leadsToLost_3 : decode b_Mo_leadsToLost 3 = .ok (.getfield 69, 3) := by decide +kernel
theorem d_Mo_leadsToLost_6 : decode b_Mo_leadsToLost 6 = .ok (.bipush 10, 2) := by decide +kernel
theorem d_Mo_leadsToLost_8 : decode b_Mo_leadsToLost 8 = .ok (.iload_n 1, 1) := by decide +kernel
theorem d_Mo_leadsToLost_9 : decode b_Mo_leadsToLost 9 = .ok (.imul, 1) := by decide +kernel
theorem d_Mo_leadsToLost_10 : decode b_Mo_leadsToLost 10 = .ok (.iload_n 2, 1) := by decide +kernel
theorem d_Mo_leadsToLost_11 : decode b_Mo_leadsToLost 11 = .ok (.iadd, 1) := by decide +kernel
theorem d_Mo_leadsToLost_12 : decode b_Mo_leadsToLost 12 = .ok (.iaload, 1) := by decide +kernel
theorem d_Mo_leadsToLost_13 : decode b_Mo_leadsToLost 13 = .ok (.istore 4, 2) := by decide +kernel
theorem d_Mo_leadsToLost_15 : decode b_Mo_leadsToLost 15 = .ok (.iconst 0, 1) := by decide +kernel
theorem d_Mo_leadsToLost_16 : decode b_Mo_leadsToLost 16 = .ok (.istore 5, 2) := by decide +kernel
theorem d_Mo_leadsToLost_18 : decode b_Mo_leadsToLost 18 = .ok (.iload 5, 2) := by decide +kernel
theorem d_Mo_leadsToLost_20 : decode b_Mo_leadsToLost 20 = .ok (.aload_n 0, 1) := by decide +kernel
theorem d_Mo_leadsToLost_21 : decode b_Mo_leadsToLost 21 = .ok (.getfield 33, 3) := by decide +kernel
theorem d_Mo_leadsToLost_24 : decode b_Mo_leadsToLost 24 = .ok (.bipush 10, 2) := by decide +kernel
theorem d_Mo_leadsToLost_26 : decode b_Mo_leadsToLost 26 = .ok (.aload_n 0, 1) := by decide +kernel
theorem d_Mo_leadsToLost_27 : decode b_Mo_leadsToLost 27 = .ok (.getfield 17, 3) := by decide +kernel
theorem d_Mo_leadsToLost_30 : decode b_Mo_leadsToLost 30 = .ok (.imul, 1) := by decide +kernel
theorem d_Mo_leadsToLost_31 : decode b_Mo_leadsToLost 31 = .ok (.iload 4, 2) := by decide +kernel
theorem d_Mo_leadsToLost_33 : decode b_Mo_leadsToLost 33 = .ok (.iadd, 1) := by decide +kernel
theorem d_Mo_leadsToLost_34 : decode b_Mo_leadsToLost 34 = .ok (.iaload, 1) := by decide +kernel
theorem d_Mo_leadsToLost_35 : decode b_Mo_leadsToLost 35 = .ok (.if_icmp .ge 43, 3) := by decide +kernel
theorem d_Mo_leadsToLost_38 : decode b_Mo_leadsToLost 38 = .ok (.iload_n 3, 1) := by decide +kernel
theorem d_Mo_leadsToLost_39 : decode b_Mo_leadsToLost 39 = .ok (.ifCond .eq 31, 3) := by decide +kernel
theorem d_Mo_leadsToLost_42 : decode b_Mo_leadsToLost 42 = .ok (.aload_n 0, 1) := by decide +kernel
theorem d_Mo_leadsToLost_43 : decode b_Mo_leadsToLost 43 = .ok (.getfield 87, 3) := by decide +kernel
theorem d_Mo_leadsToLost_46 : decode b_Mo_leadsToLost 46 = .ok (.aload_n 0, 1) := by decide +kernel
theorem d_Mo_leadsToLost_47 : decode b_Mo_leadsToLost 47 = .ok (.getfield 75, 3) := by decide +kernel
theorem d_Mo_leadsToLost_50 : decode b_Mo_leadsToLost 50 = .ok (.bipush 40, 2) := by decide +kernel
theorem d_Mo_leadsToLost_52 : decode b_Mo_leadsToLost 52 = .ok (.iload_n 1, 1) := by decide +kernel
theorem d_Mo_leadsToLost_53 : decode b_Mo_leadsToLost 53 = .ok (.imul, 1) := by decide +kernel
theorem d_Mo_leadsToLost_54 : decode b_Mo_leadsToLost 54 = .ok (.iconst 4, 1) := by decide +kernel
theorem d_Mo_leadsToLost_55 : decode b_Mo_leadsToLost 55 = .ok (.iload_n 2, 1) := by decide +kernel
theorem d_Mo_leadsToLost_56 : decode b_Mo_leadsToLost 56 = .ok (.imul, 1) := by decide +kernel
theorem d_Mo_leadsToLost_57 : decode b_Mo_leadsToLost 57 = .ok (.iadd, 1) := by decide +kernel
theorem d_Mo_leadsToLost_58 : decode b_Mo_leadsToLost 58 = .ok (.iload 5, 2) := by decide +kernel
theorem d_Mo_leadsToLost_60 : decode b_Mo_leadsToLost 60 = .ok (.iadd, 1) := by decide +kernel
theorem d_Mo_leadsToLost_61 : decode b_Mo_leadsToLost 61 = .ok (.iaload, 1) := by decide +kernel
theorem d_Mo_leadsToLost_62 : decode b_Mo_leadsToLost 62 = .ok (.baload, 1) := by decide +kernel
theorem d_Mo_leadsToLost_63 : decode b_Mo_leadsToLost 63 = .ok (.ifCond .eq 7, 3) := by decide +kernel
theorem d_Mo_leadsToLost_66 : decode b_Mo_leadsToLost 66 = .ok (.iconst 1, 1) := by decide +kernel
theorem d_Mo_leadsToLost_67 : decode b_Mo_leadsToLost 67 = .ok (.goto 4, 3) := by decide +kernel
theorem d_Mo_leadsToLost_70 : decode b_Mo_leadsToLost 70 = .ok (.iconst 0, 1) := by decide +kernel
theorem d_Mo_leadsToLost_71 : decode b_Mo_leadsToLost 71 = .ok (.istore_n 3, 1) := by decide +kernel
theorem d_Mo_leadsToLost_72 : decode b_Mo_leadsToLost 72 = .ok (.iinc 5 1, 3) := by decide +kernel
theorem d_Mo_leadsToLost_75 : decode b_Mo_leadsToLost 75 = .ok (.goto (-57), 3) := by decide +kernel
theorem d_Mo_leadsToLost_78 : decode b_Mo_leadsToLost 78 = .ok (.iload_n 3, 1) := by decide +kernel
theorem d_Mo_leadsToLost_79 : decode b_Mo_leadsToLost 79 = .ok (.ireturn, 1) := by decide +kernel
theorem d_Mo_staysLost_0 : decode b_Mo_staysLost 0 = .ok (.aload_n 0, 1) := by decide +kernel
theorem d_Mo_staysLost_1 : decode b_Mo_staysLost 1 = .ok (.getfield 72, 3) := by decide +kernel
theorem d_Mo_staysLost_4 : decode b_Mo_staysLost 4 = .ok (.iload_n 1, 1) := by decide +kernel
theorem d_Mo_staysLost_5 : decode b_Mo_staysLost 5 = .ok (.iaload, 1) := by decide +kernel
theorem d_Mo_staysLost_6 : decode b_Mo_staysLost 6 = .ok (.ifCond .ne 5, 3) := by decide +kernel
theorem d_Mo_staysLost_9 : decode b_Mo_staysLost 9 = .ok (.iconst 1, 1) := by decide +kernel
theorem d_Mo_staysLost_10 : decode b_Mo_staysLost 10 = .ok (.ireturn, 1) := by decide +kernel
theorem d_Mo_staysLost_11 : decode b_Mo_staysLost 11 = .ok (.aload_n 0, 1) := by decide +kernel
theorem d_Mo_staysLost_12 : decode b_Mo_staysLost 12 = .ok (.getfield 66, 3) := by decide +kernel
theorem d_Mo_staysLost_15 : decode b_Mo_staysLost 15 = .ok (.iload_n 1, 1) := by decide +kernel
theorem d_Mo_staysLost_16 : decode b_Mo_staysLost 16 = .ok (.baload, 1) := by decide +kernel
theorem d_Mo_staysLost_17 : decode b_Mo_staysLost 17 = .ok (.ifCond .eq 15, 3) := by decide +kernel
theorem d_Mo_staysLost_20 : decode b_Mo_staysLost 20 = .ok (.aload_n 0, 1) := by decide +kernel
theorem d_Mo_staysLost_21 : decode b_Mo_staysLost 21 = .ok (.iload_n 1, 1) := by decide +kernel
theorem d_Mo_staysLost_22 : decode b_Mo_staysLost 22 = .ok (.aload_n 0, 1) := by decide +kernel
theorem d_Mo_staysLost_23 : decode b_Mo_staysLost 23 = .ok (.getfield 84, 3) := by decide +kernel
theorem d_Mo_staysLost_26 : decode b_Mo_staysLost 26 = .ok (.iload_n 1, 1) := by decide +kernel
theorem d_Mo_staysLost_27 : decode b_Mo_staysLost 27 = .ok (.iaload, 1) := by decide +kernel
theorem d_Mo_staysLost_28 : decode b_Mo_staysLost 28 = .ok (.invokevirtual 225, 3) := by decide +kernel
theorem d_Mo_staysLost_31 : decode b_Mo_staysLost 31 = .ok (.ireturn, 1) := by decide +kernel
theorem d_Mo_staysLost_32 : decode b_Mo_staysLost 32 = .ok (.iconst 0, 1) := by decide +kernel
theorem d_Mo_staysLost_33 : decode b_Mo_staysLost 33 = .ok (.istore_n 2, 1) := by decide +kernel
theorem d_Mo_staysLost_34 : decode b_Mo_staysLost 34 = .ok (.iconst 0, 1) := by decide +kernel
theorem d_Mo_staysLost_35 : decode b_Mo_staysLost 35 = .ok (.istore_n 3, 1) := by decide +kernel
theorem d_Mo_staysLost_36 : decode b_Mo_staysLost 36 = .ok (.iload_n 3, 1) := by decide +kernel
theorem d_Mo_staysLost_37 : decode b_Mo_staysLost 37 = .ok (.aload_n 0, 1) := by decide +kernel
theorem d_Mo_staysLost_38 : decode b_Mo_staysLost 38 = .ok (.getfield 72, 3) := by decide +kernel
theorem d_Mo_staysLost_41 : decode b_Mo_staysLost 41 = .ok (.iload_n 1, 1) := by decide +kernel
theorem d_Mo_staysLost_42 : decode b_Mo_staysLost 42 = .ok (.iaload, 1) := by decide +kernel
theorem d_Mo_staysLost_43 : decode b_Mo_staysLost 43 = .ok (.if_icmp .ge 41, 3) := by decide +kernel
theorem d_Mo_staysLost_46 : decode b_Mo_staysLost 46 = .ok (.iload_n 2, 1) := by decide +kernel
theorem d_Mo_staysLost_47 : decode b_Mo_staysLost 47 = .ok (.ifCond .ne 25, 3) := by decide +kernel
theorem d_Mo_staysLost_50 : decode b_Mo_staysLost 50 = .ok (.aload_n 0, 1) := by decide +kernel
theorem d_Mo_staysLost_51 : decode b_Mo_staysLost 51 = .ok (.getfield 81, 3) := by decide +kernel
theorem d_Mo_staysLost_54 : decode b_Mo_staysLost 54 = .ok (.iload_n 1, 1) := by decide +kernel
theorem d_Mo_staysLost_55 : decode b_Mo_staysLost 55 = .ok (.iaload, 1) := by decide +kernel
theorem d_Mo_staysLost_56 : decode b_Mo_staysLost 56 = .ok (.iload_n 3, 1) := by decide +kernel
theorem d_Mo_staysLost_57 : decode b_Mo_staysLost 57 = .ok (.invokestatic 228, 3) := by decide +kernel
theorem d_Mo_staysLost_60 : decode b_Mo_staysLost 60 = .ok (.ifCond .eq 16, 3) := by decide +kernel
theorem d_Mo_staysLost_63 : decode b_Mo_staysLost 63 = .ok (.aload_n 0, 1) := by decide +kernel
theorem d_Mo_staysLost_64 : decode b_Mo_staysLost 64 = .ok (.iload_n 1, 1) := by decide +kernel
theorem d_Mo_staysLost_65 : decode b_Mo_staysLost 65 = .ok (.iload_n 3, 1) := by decide +kernel
theorem d_Mo_staysLost_66 : decode b_Mo_staysLost 66 = .ok (.invokevirtual 225, 3) := by decide +kernel
theorem d_Mo_staysLost_69 : decode b_Mo_staysLost 69 = .ok (.ifCond .eq 7, 3) := by decide +kernel
theorem d_Mo_staysLost_72 : decode b_Mo_staysLost 72 = .ok (.iconst 1, 1) := by decide +kernel
theorem d_Mo_staysLost_73 : decode b_Mo_staysLost 73 = .ok (.goto 4, 3) := by decide +kernel
theorem d_Mo_staysLost_76 : decode b_Mo_staysLost 76 = .ok (.iconst 0, 1) := by decide +kernel
theorem d_Mo_staysLost_77 : decode b_Mo_staysLost 77 = .ok (.istore_n 2, 1) := by decide +kernel
theorem d_Mo_staysLost_78 : decode b_Mo_staysLost 78 = .ok (.iinc 3 1, 3) := by decide +kernel
theorem d_Mo_staysLost_81 : decode b_Mo_staysLost 81 = .ok (.goto (-45), 3) := by decide +kernel
theorem d_Mo_staysLost_84 : decode b_Mo_staysLost 84 = .ok (.iload_n 2, 1) := by decide +kernel
theorem d_Mo_staysLost_85 : decode b_Mo_staysLost 85 = .ok (.ireturn, 1) := by decide +kernel
theorem d_Mo_findLost_0 : decode b_Mo_findLost 0 = .ok (.iconst 0, 1) := by decide +kernel
theorem d_Mo_findLost_1 : decode b_Mo_findLost 1 = .ok (.istore_n 1, 1) := by decide +kernel
theorem d_Mo_findLost_2 : decode b_Mo_findLost 2 = .ok (.iload_n 1, 1) := by decide +kernel
theorem d_Mo_findLost_3 : decode b_Mo_findLost 3 = .ok (.aload_n 0, 1) := by decide +kernel
theorem d_Mo_findLost_4 : decode b_Mo_findLost 4 = .ok (.getfield 198, 3) := by decide +kernel
theorem d_Mo_findLost_7 : decode b_Mo_findLost 7 = .ok (.if_icmp .ge 29, 3) := by decide +kernel
theorem d_Mo_findLost_10 : decode b_Mo_findLost 10 = .ok (.aload_n 0, 1) := by decide +kernel
theorem d_Mo_findLost_11 : decode b_Mo_findLost 11 = .ok (.getfield 87, 3) := by decide +kernel
theorem d_Mo_findLost_14 : decode b_Mo_findLost 14 = .ok (.iload_n 1, 1) := by decide +kernel
theorem d_Mo_findLost_15 : decode b_Mo_findLost 15 = .ok (.aload_n 0, 1) := by decide +kernel
theorem d_Mo_findLost_16 : decode b_Mo_findLost 16 = .ok (.getfield 63, 3) := by decide +kernel
theorem d_Mo_findLost_19 : decode b_Mo_findLost 19 = .ok (.iload_n 1, 1) := by decide +kernel
theorem d_Mo_findLost_20 : decode b_Mo_findLost 20 = .ok (.baload, 1) := by decide +kernel
theorem d_Mo_findLost_21 : decode b_Mo_findLost 21 = .ok (.ifCond .ne 7, 3) := by decide +kernel
theorem d_Mo_findLost_24 : decode b_Mo_findLost 24 = .ok (.iconst 1, 1) := by decide +kernel
theorem d_Mo_findLost_25 : decode b_Mo_findLost 25 = .ok (.goto 4, 3) := by decide +kernel
theorem d_Mo_findLost_28 : decode b_Mo_findLost 28 = .ok (.iconst 0, 1) := by decide +kernel
theorem d_Mo_findLost_29 : decode b_Mo_findLost 29 = .ok (.bastore, 1) := by decide +kernel
theorem d_Mo_findLost_30 : decode b_Mo_findLost 30 = .ok (.iinc 1 1, 3) := by decide +kernel
theorem d_Mo_findLost_33 : decode b_Mo_findLost 33 = .ok (.goto (-31), 3) := by decide +kernel
theorem d_Mo_findLost_36 : decode b_Mo_findLost 36 = .ok (.iconst 1, 1) := by decide +kernel
theorem d_Mo_findLost_37 : decode b_Mo_findLost 37 = .ok (.istore_n 1, 1) := by decide +kernel
theorem d_Mo_findLost_38 : decode b_Mo_findLost 38 = .ok (.iload_n 1, 1) := by decide +kernel
theorem d_Mo_findLost_39 : decode b_Mo_findLost 39 = .ok (.ifCond .eq 85, 3) := by decide +kernel
theorem d_Mo_findLost_42 : decode b_Mo_findLost 42 = .ok (.iconst 0, 1) := by decide +kernel
theorem d_Mo_findLost_43 : decode b_Mo_findLost 43 = .ok (.istore_n 1, 1) := by decide +kernel
theorem d_Mo_findLost_44 : decode b_Mo_findLost 44 = .ok (.iconst 0, 1) := by decide +kernel
theorem d_Mo_findLost_45 : decode b_Mo_findLost 45 = .ok (.istore_n 2, 1) := by decide +kernel
theorem d_Mo_findLost_46 : decode b_Mo_findLost 46 = .ok (.iload_n 2, 1) := by decide +kernel
theorem d_Mo_findLost_47 : decode b_Mo_findLost 47 = .ok (.aload_n 0, 1) := by decide +kernel
theorem d_Mo_findLost_48 : decode b_Mo_findLost 48 = .ok (.getfield 198, 3) := by decide +kernel
theorem d_Mo_findLost_51 : decode b_Mo_findLost 51 = .ok (.if_icmp .ge 70, 3) := by decide +kernel
theorem d_Mo_findLost_54 : decode b_Mo_findLost 54 = .ok (.aload_n 0, 1) := by decide +kernel
theorem d_Mo_findLost_55 : decode b_Mo_findLost 55 = .ok (.getfield 87, 3) := by decide +kernel
theorem d_Mo_findLost_58 : decode b_Mo_findLost 58 = .ok (.iload_n 2, 1) := by decide +kernel
theorem d_Mo_findLost_59 : decode b_Mo_findLost 59 = .ok (.baload, 1) := by decide +kernel
theorem d_Mo_findLost_60 : decode b_Mo_findLost 60 = .ok (.ifCond .eq 15, 3) := by decide +kernel
theorem d_Mo_findLost_63 : decode b_Mo_findLost 63 = .ok (.aload_n 0, 1) := by decide +kernel
theorem d_Mo_findLost_64 : decode b_Mo_findLost 64 = .ok (.iload_n 2, 1) := by decide +kernel
theorem d_Mo_findLost_65 : decode b_Mo_findLost 65 = .ok (.invokevirtual 231, 3) := by decide +kernel
theorem d_Mo_findLost_68 : decode b_Mo_findLost 68 = .ok (.ifCond .ne 7, 3) := by decide +kernel
theorem d_Mo_findLost_71 : decode b_Mo_findLost 71 = .ok (.iconst 1, 1) := by decide +kernel
theorem d_Mo_findLost_72 : decode b_Mo_findLost 72 = .ok (.goto 4, 3) := by decide +kernel
theorem d_Mo_findLost_75 : decode b_Mo_findLost 75 = .ok (.iconst 0, 1) := by decide +kernel
theorem d_Mo_findLost_76 : decode b_Mo_findLost 76 = .ok (.istore_n 3, 1) := by decide +kernel
theorem d_Mo_findLost_77 : decode b_Mo_findLost 77 = .ok (.aload_n 0, 1) := by decide +kernel
theorem d_Mo_findLost_78 : decode b_Mo_findLost 78 = .ok (.getfield 87, 3) := by decide +kernel
theorem d_Mo_findLost_81 : decode b_Mo_findLost 81 = .ok (.iload_n 2, 1) := by decide +kernel
theorem d_Mo_findLost_82 : decode b_Mo_findLost 82 = .ok (.aload_n 0, 1) := by decide +kernel
theorem d_Mo_findLost_83 : decode b_Mo_findLost 83 = .ok (.getfield 87, 3) := by decide +kernel
theorem d_Mo_findLost_86 : decode b_Mo_findLost 86 = .ok (.iload_n 2, 1) := by decide +kernel
theorem d_Mo_findLost_87 : decode b_Mo_findLost 87 = .ok (.baload, 1) := by decide +kernel
theorem d_Mo_findLost_88 : decode b_Mo_findLost 88 = .ok (.ifCond .eq 11, 3) := by decide +kernel
theorem d_Mo_findLost_91 : decode b_Mo_findLost 91 = .ok (.iload_n 3, 1) := by decide +kernel
theorem d_Mo_findLost_92 : decode b_Mo_findLost 92 = .ok (.ifCond .ne 7, 3) := by decide +kernel
theorem d_Mo_findLost_95 : decode b_Mo_findLost 95 = .ok (.iconst 1, 1) := by decide +kernel
theorem d_Mo_findLost_96 : decode b_Mo_findLost 96 = .ok (.goto 4, 3) := by decide +kernel
theorem d_Mo_findLost_99 : decode b_Mo_findLost 99 = .ok (.iconst 0, 1) := by decide +kernel
theorem d_Mo_findLost_100 : decode b_Mo_findLost 100 = .ok (.bastore, 1) := by decide +kernel
theorem d_Mo_findLost_101 : decode b_Mo_findLost 101 = .ok (.iload_n 1, 1) := by decide +kernel
theorem d_Mo_findLost_102 : decode b_Mo_findLost 102 = .ok (.ifCond .ne 7, 3) := by decide +kernel
theorem d_Mo_findLost_105 : decode b_Mo_findLost 105 = .ok (.iload_n 3, 1) := by decide +kernel
theorem d_Mo_findLost_106 : decode b_Mo_findLost 106 = .ok (.ifCond .eq 7, 3) := by decide +kernel
theorem d_Mo_findLost_109 : decode b_Mo_findLost 109 = .ok (.iconst 1, 1) := by decide +kernel
theorem d_Mo_findLost_110 : decode b_Mo_findLost 110 = .ok (.goto 4, 3) := by decide +kernel
theorem d_Mo_findLost_113 : decode b_Mo_findLost 113 = .ok (.iconst 0, 1) := by decide +kernel
theorem d_Mo_findLost_114 : decode b_Mo_findLost 114 = .ok (.istore_n 1, 1) := by decide +kernel
theorem d_Mo_findLost_115 : decode b_Mo_findLost 115 = .ok (.iinc 2 1, 3) := by decide +kernel
theorem d_Mo_findLost_118 : decode b_Mo_findLost 118 = .ok (.goto (-72), 3) := by decide +kernel
theorem d_Mo_findLost_121 : decode b_Mo_findLost 121 = .ok (.goto (-83), 3) := by decide +kernel
theorem d_Mo_findLost_124 : decode b_Mo_findLost 124 = .ok (.return_, 1) := by decide +kernel
theorem d_Mo_equations_0 : decode b_Mo_equations 0 = .ok (.aload_n 0, 1) := by decide +kernel
theorem d_Mo_equations_1 : decode b_Mo_equations 1 = .ok (.iconst 0, 1) := by decide +kernel
theorem d_Mo_equations_2 : decode b_Mo_equations 2 = .ok (.putfield 234, 3) := by decide +kernel
theorem d_Mo_equations_5 : decode b_Mo_equations 5 = .ok (.iconst 0, 1) := by decide +kernel
theorem d_Mo_equations_6 : decode b_Mo_equations 6 = .ok (.istore_n 1, 1) := by decide +kernel
theorem d_Mo_equations_7 : decode b_Mo_equations 7 = .ok (.iload_n 1, 1) := by decide +kernel
theorem d_Mo_equations_8 : decode b_Mo_equations 8 = .ok (.aload_n 0, 1) := by decide +kernel
theorem d_Mo_equations_9 : decode b_Mo_equations 9 = .ok (.getfield 198, 3) := by decide +kernel
theorem d_Mo_equations_12 : decode b_Mo_equations 12 = .ok (.if_icmp .ge 67, 3) := by decide +kernel
theorem d_Mo_equations_15 : decode b_Mo_equations 15 = .ok (.aload_n 0, 1) := by decide +kernel
theorem d_Mo_equations_16 : decode b_Mo_equations 16 = .ok (.getfield 90, 3) := by decide +kernel
theorem d_Mo_equations_19 : decode b_Mo_equations 19 = .ok (.iload_n 1, 1) := by decide +kernel
theorem d_Mo_equations_20 : decode b_Mo_equations 20 = .ok (.aload_n 0, 1) := by decide +kernel
theorem d_Mo_equations_21 : decode b_Mo_equations 21 = .ok (.getfield 87, 3) := by decide +kernel
theorem d_Mo_equations_24 : decode b_Mo_equations 24 = .ok (.iload_n 1, 1) := by decide +kernel
theorem d_Mo_equations_25 : decode b_Mo_equations 25 = .ok (.baload, 1) := by decide +kernel
theorem d_Mo_equations_26 : decode b_Mo_equations 26 = .ok (.ifCond .ne 12, 3) := by decide +kernel
theorem d_Mo_equations_29 : decode b_Mo_equations 29 = .ok (.aload_n 0, 1) := by decide +kernel
theorem d_Mo_equations_30 : decode b_Mo_equations 30 = .ok (.getfield 63, 3) := by decide +kernel
theorem d_Mo_equations_33 : decode b_Mo_equations 33 = .ok (.iload_n 1, 1) := by decide +kernel
theorem d_Mo_equations_34 : decode b_Mo_equations 34 = .ok (.baload, 1) := by decide +kernel
theorem d_Mo_equations_35 : decode b_Mo_equations 35 = .ok (.ifCond .eq 7, 3) := by decide +kernel
theorem d_Mo_equations_38 : decode b_Mo_equations 38 = .ok (.iconst (-1), 1) := by decide +kernel
theorem d_Mo_equations_39 : decode b_Mo_equations 39 = .ok (.goto 7, 3) := by decide +kernel
theorem d_Mo_equations_42 : decode b_Mo_equations 42 = .ok (.aload_n 0, 1) := by decide +kernel
theorem d_Mo_equations_43 : decode b_Mo_equations 43 = .ok (.getfield 234, 3) := by decide +kernel
theorem d_Mo_equations_46 : decode b_Mo_equations 46 = .ok (.iastore, 1) := by decide +kernel
theorem d_Mo_equations_47 : decode b_Mo_equations 47 = .ok (.aload_n 0, 1) := by decide +kernel
theorem d_Mo_equations_48 : decode b_Mo_equations 48 = .ok (.aload_n 0, 1) := by decide +kernel
theorem d_Mo_equations_49 : decode b_Mo_equations 49 = .ok (.getfield 90, 3) := by decide +kernel
theorem d_Mo_equations_52 : decode b_Mo_equations 52 = .ok (.iload_n 1, 1) := by decide +kernel
theorem d_Mo_equations_53 : decode b_Mo_equations 53 = .ok (.iaload, 1) := by decide +kernel
theorem d_Mo_equations_54 : decode b_Mo_equations 54 = .ok (.ifCond .ge 10, 3) := by decide +kernel
theorem d_Mo_equations_57 : decode b_Mo_equations 57 = .ok (.aload_n 0, 1) := by decide +kernel
theorem d_Mo_equations_58 : decode b_Mo_equations 58 = .ok (.getfield 234, 3) := by decide +kernel
theorem d_Mo_equations_61 : decode b_Mo_equations 61 = .ok (.goto 9, 3) := by decide +kernel
theorem d_Mo_equations_64 : decode b_Mo_equations 64 = .ok (.aload_n 0, 1) := by decide +kernel
theorem d_Mo_equations_65 : decode b_Mo_equations 65 = .ok (.getfield 234, 3) := by decide +kernel
theorem d_Mo_equations_68 : decode b_Mo_equations 68 = .ok (.iconst 1, 1) := by decide +kernel
theorem d_Mo_equations_69 : decode b_Mo_equations 69 = .ok (.iadd, 1) := by decide +kernel
theorem d_Mo_equations_70 : decode b_Mo_equations 70 = .ok (.putfield 234, 3) := by decide +kernel
theorem d_Mo_equations_73 : decode b_Mo_equations 73 = .ok (.iinc 1 1, 3) := by decide +kernel
theorem d_Mo_equations_76 : decode b_Mo_equations 76 = .ok (.goto (-69), 3) := by decide +kernel
theorem d_Mo_equations_79 : decode b_Mo_equations 79 = .ok (.iconst 0, 1) := by decide +kernel
theorem d_Mo_equations_80 : decode b_Mo_equations 80 = .ok (.istore_n 1, 1) := by decide +kernel
theorem d_Mo_equations_81 : decode b_Mo_equations 81 = .ok (.iload_n 1, 1) := by decide +kernel
theorem d_Mo_equations_82 : decode b_Mo_equations 82 = .ok (.bipush 72, 2) := by decide +kernel
theorem d_Mo_equations_84 : decode b_Mo_equations 84 = .ok (.if_icmp .ge 16, 3) := by decide +kernel
theorem d_Mo_equations_87 : decode b_Mo_equations 87 = .ok (.aload_n 0, 1) := by decide +kernel
theorem d_Mo_equations_88 : decode b_Mo_equations 88 = .ok (.getfield 93, 3) := by decide +kernel
theorem d_Mo_equations_91 : decode b_Mo_equations 91 = .ok (.iload_n 1, 1) := by decide +kernel
theorem d_Mo_equations_92 : decode b_Mo_equations 92 = .ok (.lconst 0, 1) := by decide +kernel
theorem d_Mo_equations_93 : decode b_Mo_equations 93 = .ok (.lastore, 1) := by decide +kernel
theorem d_Mo_equations_94 : decode b_Mo_equations 94 = .ok (.iinc 1 1, 3) := by decide +kernel
theorem d_Mo_equations_97 : decode b_Mo_equations 97 = .ok (.goto (-16), 3) := by decide +kernel
theorem d_Mo_equations_100 : decode b_Mo_equations 100 = .ok (.iconst 0, 1) := by decide +kernel
theorem d_Mo_equations_101 : decode b_Mo_equations 101 = .ok (.istore_n 1, 1) := by decide +kernel
theorem d_Mo_equations_102 : decode b_Mo_equations 102 = .ok (.iload_n 1, 1) := by decide +kernel
theorem d_Mo_equations_103 : decode b_Mo_equations 103 = .ok (.aload_n 0, 1) := by decide +kernel
theorem d_Mo_equations_104 : decode b_Mo_equations 104 = .ok (.getfield 198, 3) := by decide +kernel
theorem d_Mo_equations_107 : decode b_Mo_equations 107 = .ok (.if_icmp .ge 236, 3) := by decide +kernel
theorem d_Mo_equations_110 : decode b_Mo_equations 110 = .ok (.aload_n 0, 1) := by decide +kernel
theorem d_Mo_equations_111 : decode b_Mo_equations 111 = .ok (.getfield 90, 3) := by decide +kernel
theorem d_Mo_equations_114 : decode b_Mo_equations 114 = .ok (.iload_n 1, 1) := by decide +kernel
theorem d_Mo_equations_115 : decode b_Mo_equations 115 = .ok (.iaload, 1) := by decide +kernel
theorem d_Mo_equations_116 : decode b_Mo_equations 116 = .ok (.ifCond .lt 221, 3) := by decide +kernel
theorem d_Mo_equations_119 : decode b_Mo_equations 119 = .ok (.bipush 9, 2) := by decide +kernel
theorem d_Mo_equations_121 : decode b_Mo_equations 121 = .ok (.aload_n 0, 1) := by decide +kernel
theorem d_Mo_equations_122 : decode b_Mo_equations 122 = .ok (.getfield 90, 3) := by decide +kernel
theorem d_Mo_equations_125 : decode b_Mo_equations 125 = .ok (.iload_n 1, 1) := by decide +kernel
theorem d_Mo_equations_126 : decode b_Mo_equations 126 = .ok (.iaload, 1) := by decide +kernel
theorem d_Mo_equations_127 : decode b_Mo_equations 127 = .ok (.imul, 1) := by decide +kernel
theorem d_Mo_equations_128 : decode b_Mo_equations 128 = .ok (.istore_n 2, 1) := by decide +kernel
theorem d_Mo_equations_129 : decode b_Mo_equations 129 = .ok (.aload_n 0, 1) := by decide +kernel
theorem d_Mo_equations_130 : decode b_Mo_equations 130 = .ok (.getfield 69, 3) := by decide +kernel
theorem d_Mo_equations_133 : decode b_Mo_equations 133 = .ok (.bipush 10, 2) := by decide +kernel
