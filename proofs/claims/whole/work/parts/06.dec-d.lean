theorem dX8_minute_5 : decode cX8_minute 5 = .ok (.aload_n 0, 1) := by decide +kernel
theorem dX8_minute_6 : decode cX8_minute 6 = .ok (.getfield 7, 3) := by decide +kernel
theorem dX8_minute_9 : decode cX8_minute 9 = .ok (.iload_n 1, 1) := by decide +kernel
theorem dX8_minute_10 : decode cX8_minute 10 = .ok (.iconst 1, 1) := by decide +kernel
theorem dX8_minute_11 : decode cX8_minute 11 = .ok (.iadd, 1) := by decide +kernel
theorem dX8_minute_12 : decode cX8_minute 12 = .ok (.dup2, 1) := by decide +kernel
theorem dX8_minute_13 : decode cX8_minute 13 = .ok (.iaload, 1) := by decide +kernel
theorem dX8_minute_14 : decode cX8_minute 14 = .ok (.aload_n 0, 1) := by decide +kernel
theorem dX8_minute_15 : decode cX8_minute 15 = .ok (.getfield 7, 3) := by decide +kernel
theorem dX8_minute_18 : decode cX8_minute 18 = .ok (.iload_n 1, 1) := by decide +kernel
theorem dX8_minute_19 : decode cX8_minute 19 = .ok (.iconst 1, 1) := by decide +kernel
theorem dX8_minute_20 : decode cX8_minute 20 = .ok (.iadd, 1) := by decide +kernel
theorem dX8_minute_21 : decode cX8_minute 21 = .ok (.iaload, 1) := by decide +kernel
theorem dX8_minute_22 : decode cX8_minute 22 = .ok (.ifCond .le 7, 3) := by decide +kernel
theorem dX8_minute_25 : decode cX8_minute 25 = .ok (.iconst 1, 1) := by decide +kernel
theorem dX8_minute_26 : decode cX8_minute 26 = .ok (.goto 4, 3) := by decide +kernel
theorem dX8_minute_29 : decode cX8_minute 29 = .ok (.iconst 0, 1) := by decide +kernel
theorem dX8_minute_30 : decode cX8_minute 30 = .ok (.isub, 1) := by decide +kernel
theorem dX8_minute_31 : decode cX8_minute 31 = .ok (.iastore, 1) := by decide +kernel
theorem dX8_minute_32 : decode cX8_minute 32 = .ok (.iconst 0, 1) := by decide +kernel
theorem dX8_minute_33 : decode cX8_minute 33 = .ok (.istore_n 2, 1) := by decide +kernel
theorem dX8_minute_34 : decode cX8_minute 34 = .ok (.iload_n 2, 1) := by decide +kernel
theorem dX8_minute_35 : decode cX8_minute 35 = .ok (.aload_n 0, 1) := by decide +kernel
theorem dX8_minute_36 : decode cX8_minute 36 = .ok (.getfield 64, 3) := by decide +kernel
theorem dX8_minute_39 : decode cX8_minute 39 = .ok (.if_icmp .ge 48, 3) := by decide +kernel
theorem dX8_minute_42 : decode cX8_minute 42 = .ok (.aload_n 0, 1) := by decide +kernel
theorem dX8_minute_43 : decode cX8_minute 43 = .ok (.getfield 42, 3) := by decide +kernel
theorem dX8_minute_46 : decode cX8_minute 46 = .ok (.iload_n 2, 1) := by decide +kernel
theorem dX8_minute_47 : decode cX8_minute 47 = .ok (.iaload, 1) := by decide +kernel
theorem dX8_minute_48 : decode cX8_minute 48 = .ok (.iconst (-1), 1) := by decide +kernel
theorem dX8_minute_49 : decode cX8_minute 49 = .ok (.if_icmp .eq 32, 3) := by decide +kernel
theorem dX8_minute_52 : decode cX8_minute 52 = .ok (.aload_n 0, 1) := by decide +kernel
theorem dX8_minute_53 : decode cX8_minute 53 = .ok (.getfield 7, 3) := by decide +kernel
theorem dX8_minute_56 : decode cX8_minute 56 = .ok (.iload_n 1, 1) := by decide +kernel
theorem dX8_minute_57 : decode cX8_minute 57 = .ok (.iconst 3, 1) := by decide +kernel
theorem dX8_minute_58 : decode cX8_minute 58 = .ok (.iadd, 1) := by decide +kernel
theorem dX8_minute_59 : decode cX8_minute 59 = .ok (.aload_n 0, 1) := by decide +kernel
theorem dX8_minute_60 : decode cX8_minute 60 = .ok (.getfield 42, 3) := by decide +kernel
theorem dX8_minute_63 : decode cX8_minute 63 = .ok (.iload_n 2, 1) := by decide +kernel
theorem dX8_minute_64 : decode cX8_minute 64 = .ok (.iaload, 1) := by decide +kernel
theorem dX8_minute_65 : decode cX8_minute 65 = .ok (.iadd, 1) := by decide +kernel
theorem dX8_minute_66 : decode cX8_minute 66 = .ok (.dup2, 1) := by decide +kernel
theorem dX8_minute_67 : decode cX8_minute 67 = .ok (.iaload, 1) := by decide +kernel
theorem dX8_minute_68 : decode cX8_minute 68 = .ok (.aload_n 0, 1) := by decide +kernel
theorem dX8_minute_69 : decode cX8_minute 69 = .ok (.getfield 7, 3) := by decide +kernel
theorem dX8_minute_72 : decode cX8_minute 72 = .ok (.iload_n 1, 1) := by decide +kernel
theorem dX8_minute_73 : decode cX8_minute 73 = .ok (.bipush 21, 2) := by decide +kernel
theorem dX8_minute_75 : decode cX8_minute 75 = .ok (.iadd, 1) := by decide +kernel
theorem dX8_minute_76 : decode cX8_minute 76 = .ok (.iload_n 2, 1) := by decide +kernel
theorem dX8_minute_77 : decode cX8_minute 77 = .ok (.iadd, 1) := by decide +kernel
theorem dX8_minute_78 : decode cX8_minute 78 = .ok (.iaload, 1) := by decide +kernel
theorem dX8_minute_79 : decode cX8_minute 79 = .ok (.iadd, 1) := by decide +kernel
theorem dX8_minute_80 : decode cX8_minute 80 = .ok (.iastore, 1) := by decide +kernel
theorem dX8_minute_81 : decode cX8_minute 81 = .ok (.iinc 2 1, 3) := by decide +kernel
theorem dX8_minute_84 : decode cX8_minute 84 = .ok (.goto (-50), 3) := by decide +kernel
theorem dX8_minute_87 : decode cX8_minute 87 = .ok (.iconst 0, 1) := by decide +kernel
theorem dX8_minute_88 : decode cX8_minute 88 = .ok (.istore_n 2, 1) := by decide +kernel
theorem dX8_minute_89 : decode cX8_minute 89 = .ok (.iload_n 2, 1) := by decide +kernel
theorem dX8_minute_90 : decode cX8_minute 90 = .ok (.aload_n 0, 1) := by decide +kernel
theorem dX8_minute_91 : decode cX8_minute 91 = .ok (.getfield 61, 3) := by decide +kernel
theorem dX8_minute_94 : decode cX8_minute 94 = .ok (.if_icmp .ge 68, 3) := by decide +kernel
theorem dX8_minute_97 : decode cX8_minute 97 = .ok (.aload_n 0, 1) := by decide +kernel
theorem dX8_minute_98 : decode cX8_minute 98 = .ok (.getfield 7, 3) := by decide +kernel
theorem dX8_minute_101 : decode cX8_minute 101 = .ok (.iload_n 1, 1) := by decide +kernel
theorem dX8_minute_102 : decode cX8_minute 102 = .ok (.iconst 3, 1) := by decide +kernel
theorem dX8_minute_103 : decode cX8_minute 103 = .ok (.iadd, 1) := by decide +kernel
theorem dX8_minute_104 : decode cX8_minute 104 = .ok (.iload_n 2, 1) := by decide +kernel
theorem dX8_minute_105 : decode cX8_minute 105 = .ok (.iadd, 1) := by decide +kernel
theorem dX8_minute_106 : decode cX8_minute 106 = .ok (.iaload, 1) := by decide +kernel
theorem dX8_minute_107 : decode cX8_minute 107 = .ok (.bipush 99, 2) := by decide +kernel
theorem dX8_minute_109 : decode cX8_minute 109 = .ok (.if_icmp .le 8, 3) := by decide +kernel
theorem dX8_minute_112 : decode cX8_minute 112 = .ok (.bipush 99, 2) := by decide +kernel
theorem dX8_minute_114 : decode cX8_minute 114 = .ok (.goto 13, 3) := by decide +kernel
theorem dX8_minute_117 : decode cX8_minute 117 = .ok (.aload_n 0, 1) := by decide +kernel
theorem dX8_minute_118 : decode cX8_minute 118 = .ok (.getfield 7, 3) := by decide +kernel
theorem dX8_minute_121 : decode cX8_minute 121 = .ok (.iload_n 1, 1) := by decide +kernel
theorem dX8_minute_122 : decode cX8_minute 122 = .ok (.iconst 3, 1) := by decide +kernel
theorem dX8_minute_123 : decode cX8_minute 123 = .ok (.iadd, 1) := by decide +kernel
theorem dX8_minute_124 : decode cX8_minute 124 = .ok (.iload_n 2, 1) := by decide +kernel
theorem dX8_minute_125 : decode cX8_minute 125 = .ok (.iadd, 1) := by decide +kernel
theorem dX8_minute_126 : decode cX8_minute 126 = .ok (.iaload, 1) := by decide +kernel
theorem dX8_minute_127 : decode cX8_minute 127 = .ok (.istore_n 3, 1) := by decide +kernel
theorem dX8_minute_128 : decode cX8_minute 128 = .ok (.aload_n 0, 1) := by decide +kernel
theorem dX8_minute_129 : decode cX8_minute 129 = .ok (.getfield 7, 3) := by decide +kernel
theorem dX8_minute_132 : decode cX8_minute 132 = .ok (.iload_n 1, 1) := by decide +kernel
theorem dX8_minute_133 : decode cX8_minute 133 = .ok (.iconst 3, 1) := by decide +kernel
theorem dX8_minute_134 : decode cX8_minute 134 = .ok (.iadd, 1) := by decide +kernel
theorem dX8_minute_135 : decode cX8_minute 135 = .ok (.iload_n 2, 1) := by decide +kernel
theorem dX8_minute_136 : decode cX8_minute 136 = .ok (.iadd, 1) := by decide +kernel
theorem dX8_minute_137 : decode cX8_minute 137 = .ok (.iload_n 3, 1) := by decide +kernel
theorem dX8_minute_138 : decode cX8_minute 138 = .ok (.aload_n 0, 1) := by decide +kernel
theorem dX8_minute_139 : decode cX8_minute 139 = .ok (.getfield 39, 3) := by decide +kernel
theorem dX8_minute_142 : decode cX8_minute 142 = .ok (.if_icmp .le 12, 3) := by decide +kernel
theorem dX8_minute_145 : decode cX8_minute 145 = .ok (.iload_n 3, 1) := by decide +kernel
theorem dX8_minute_146 : decode cX8_minute 146 = .ok (.aload_n 0, 1) := by decide +kernel
theorem dX8_minute_147 : decode cX8_minute 147 = .ok (.getfield 39, 3) := by decide +kernel
theorem dX8_minute_150 : decode cX8_minute 150 = .ok (.isub, 1) := by decide +kernel
theorem dX8_minute_151 : decode cX8_minute 151 = .ok (.goto 4, 3) := by decide +kernel
theorem dX8_minute_154 : decode cX8_minute 154 = .ok (.iconst 0, 1) := by decide +kernel
theorem dX8_minute_155 : decode cX8_minute 155 = .ok (.iastore, 1) := by decide +kernel
theorem dX8_minute_156 : decode cX8_minute 156 = .ok (.iinc 2 1, 3) := by decide +kernel
theorem dX8_minute_159 : decode cX8_minute 159 = .ok (.goto (-70), 3) := by decide +kernel
theorem dX8_minute_162 : decode cX8_minute 162 = .ok (.iconst 0, 1) := by decide +kernel
theorem dX8_minute_163 : decode cX8_minute 163 = .ok (.istore_n 2, 1) := by decide +kernel
theorem dX8_minute_164 : decode cX8_minute 164 = .ok (.iload_n 2, 1) := by decide +kernel
theorem dX8_minute_165 : decode cX8_minute 165 = .ok (.aload_n 0, 1) := by decide +kernel
theorem dX8_minute_166 : decode cX8_minute 166 = .ok (.getfield 64, 3) := by decide +kernel
theorem dX8_minute_169 : decode cX8_minute 169 = .ok (.if_icmp .ge 31, 3) := by decide +kernel
theorem dX8_minute_172 : decode cX8_minute 172 = .ok (.aload_n 0, 1) := by decide +kernel
theorem dX8_minute_173 : decode cX8_minute 173 = .ok (.getfield 42, 3) := by decide +kernel
theorem dX8_minute_176 : decode cX8_minute 176 = .ok (.iload_n 2, 1) := by decide +kernel
theorem dX8_minute_177 : decode cX8_minute 177 = .ok (.iaload, 1) := by decide +kernel
theorem dX8_minute_178 : decode cX8_minute 178 = .ok (.iconst (-1), 1) := by decide +kernel
theorem dX8_minute_179 : decode cX8_minute 179 = .ok (.if_icmp .eq 15, 3) := by decide +kernel
theorem dX8_minute_182 : decode cX8_minute 182 = .ok (.aload_n 0, 1) := by decide +kernel
theorem dX8_minute_183 : decode cX8_minute 183 = .ok (.iload_n 1, 1) := by decide +kernel
theorem dX8_minute_184 : decode cX8_minute 184 = .ok (.iload_n 2, 1) := by decide +kernel
theorem dX8_minute_185 : decode cX8_minute 185 = .ok (.aload_n 0, 1) := by decide +kernel
theorem dX8_minute_186 : decode cX8_minute 186 = .ok (.getfield 42, 3) := by decide +kernel
theorem dX8_minute_189 : decode cX8_minute 189 = .ok (.iload_n 2, 1) := by decide +kernel
theorem dX8_minute_190 : decode cX8_minute 190 = .ok (.iaload, 1) := by decide +kernel
theorem dX8_minute_191 : decode cX8_minute 191 = .ok (.invokevirtual 179, 3) := by decide +kernel
theorem dX8_minute_194 : decode cX8_minute 194 = .ok (.iinc 2 1, 3) := by decide +kernel
theorem dX8_minute_197 : decode cX8_minute 197 = .ok (.goto (-33), 3) := by decide +kernel
theorem dX8_minute_200 : decode cX8_minute 200 = .ok (.aload_n 0, 1) := by decide +kernel
theorem dX8_minute_201 : decode cX8_minute 201 = .ok (.getfield 7, 3) := by decide +kernel
theorem dX8_minute_204 : decode cX8_minute 204 = .ok (.iload_n 1, 1) := by decide +kernel
theorem dX8_minute_205 : decode cX8_minute 205 = .ok (.iconst 0, 1) := by decide +kernel
theorem dX8_minute_206 : decode cX8_minute 206 = .ok (.iadd, 1) := by decide +kernel
theorem dX8_minute_207 : decode cX8_minute 207 = .ok (.dup2, 1) := by decide +kernel
theorem dX8_minute_208 : decode cX8_minute 208 = .ok (.iaload, 1) := by decide +kernel
theorem dX8_minute_209 : decode cX8_minute 209 = .ok (.iconst 1, 1) := by decide +kernel
theorem dX8_minute_210 : decode cX8_minute 210 = .ok (.iadd, 1) := by decide +kernel
theorem dX8_minute_211 : decode cX8_minute 211 = .ok (.iastore, 1) := by decide +kernel
theorem dX8_minute_212 : decode cX8_minute 212 = .ok (.return_, 1) := by decide +kernel
theorem dX8_go_0 : decode cX8_go 0 = .ok (.iload_n 1, 1) := by decide +kernel
theorem dX8_go_1 : decode cX8_go 1 = .ok (.i2l, 1) := by decide +kernel
theorem dX8_go_2 : decode cX8_go 2 = .ok (.lconst 1, 1) := by decide +kernel
theorem dX8_go_3 : decode cX8_go 3 = .ok (.ldc2_w 183, 3) := by decide +kernel
theorem dX8_go_6 : decode cX8_go 6 = .ok (.invokestatic 73, 3) := by decide +kernel
theorem dX8_go_9 : decode cX8_go 9 = .ok (.ifCond .ne 6, 3) := by decide +kernel
theorem dX8_go_12 : decode cX8_go 12 = .ok (.bipush (-3), 2) := by decide +kernel
theorem dX8_go_14 : decode cX8_go 14 = .ok (.ireturn, 1) := by decide +kernel
theorem dX8_go_15 : decode cX8_go 15 = .ok (.aload_n 0, 1) := by decide +kernel
theorem dX8_go_16 : decode cX8_go 16 = .ok (.getfield 7, 3) := by decide +kernel
theorem dX8_go_19 : decode cX8_go 19 = .ok (.iconst 0, 1) := by decide +kernel
theorem dX8_go_20 : decode cX8_go 20 = .ok (.iaload, 1) := by decide +kernel
theorem dX8_go_21 : decode cX8_go 21 = .ok (.iload_n 1, 1) := by decide +kernel
theorem dX8_go_22 : decode cX8_go 22 = .ok (.iadd, 1) := by decide +kernel
theorem dX8_go_23 : decode cX8_go 23 = .ok (.sipush 9999, 3) := by decide +kernel
theorem dX8_go_26 : decode cX8_go 26 = .ok (.if_icmp .le 6, 3) := by decide +kernel
theorem dX8_go_29 : decode cX8_go 29 = .ok (.bipush (-5), 2) := by decide +kernel
theorem dX8_go_31 : decode cX8_go 31 = .ok (.ireturn, 1) := by decide +kernel
theorem dX8_go_32 : decode cX8_go 32 = .ok (.iconst 0, 1) := by decide +kernel
theorem dX8_go_33 : decode cX8_go 33 = .ok (.istore_n 2, 1) := by decide +kernel
theorem dX8_go_34 : decode cX8_go 34 = .ok (.iload_n 2, 1) := by decide +kernel
theorem dX8_go_35 : decode cX8_go 35 = .ok (.iload_n 1, 1) := by decide +kernel
theorem dX8_go_36 : decode cX8_go 36 = .ok (.if_icmp .ge 14, 3) := by decide +kernel
theorem dX8_go_39 : decode cX8_go 39 = .ok (.aload_n 0, 1) := by decide +kernel
theorem dX8_go_40 : decode cX8_go 40 = .ok (.iconst 0, 1) := by decide +kernel
theorem dX8_go_41 : decode cX8_go 41 = .ok (.invokevirtual 185, 3) := by decide +kernel
theorem dX8_go_44 : decode cX8_go 44 = .ok (.iinc 2 1, 3) := by decide +kernel
theorem dX8_go_47 : decode cX8_go 47 = .ok (.goto (-13), 3) := by decide +kernel
theorem dX8_go_50 : decode cX8_go 50 = .ok (.aload_n 0, 1) := by decide +kernel
theorem dX8_go_51 : decode cX8_go 51 = .ok (.getfield 7, 3) := by decide +kernel
theorem dX8_go_54 : decode cX8_go 54 = .ok (.iconst 0, 1) := by decide +kernel
theorem dX8_go_55 : decode cX8_go 55 = .ok (.iaload, 1) := by decide +kernel
theorem dX8_go_56 : decode cX8_go 56 = .ok (.ireturn, 1) := by decide +kernel
theorem dX8_next_0 : decode cX8_next 0 = .ok (.aload_n 0, 1) := by decide +kernel
theorem dX8_next_1 : decode cX8_next 1 = .ok (.iload_n 1, 1) := by decide +kernel
theorem dX8_next_2 : decode cX8_next 2 = .ok (.invokevirtual 160, 3) := by decide +kernel
theorem dX8_next_5 : decode cX8_next 5 = .ok (.ifCond .ne 6, 3) := by decide +kernel
theorem dX8_next_8 : decode cX8_next 8 = .ok (.bipush (-2), 2) := by decide +kernel
theorem dX8_next_10 : decode cX8_next 10 = .ok (.ireturn, 1) := by decide +kernel
theorem dX8_next_11 : decode cX8_next 11 = .ok (.aload_n 0, 1) := by decide +kernel
theorem dX8_next_12 : decode cX8_next 12 = .ok (.iconst 0, 1) := by decide +kernel
theorem dX8_next_13 : decode cX8_next 13 = .ok (.invokevirtual 176, 3) := by decide +kernel
theorem dX8_next_16 : decode cX8_next 16 = .ok (.aload_n 0, 1) := by decide +kernel
theorem dX8_next_17 : decode cX8_next 17 = .ok (.getfield 42, 3) := by decide +kernel
theorem dX8_next_20 : decode cX8_next 20 = .ok (.iload_n 1, 1) := by decide +kernel
theorem dX8_next_21 : decode cX8_next 21 = .ok (.iaload, 1) := by decide +kernel
theorem dX8_next_22 : decode cX8_next 22 = .ok (.ireturn, 1) := by decide +kernel
theorem dX8_spill_0 : decode cX8_spill 0 = .ok (.aload_n 0, 1) := by decide +kernel
theorem dX8_spill_1 : decode cX8_spill 1 = .ok (.iload_n 1, 1) := by decide +kernel
theorem dX8_spill_2 : decode cX8_spill 2 = .ok (.invokevirtual 157, 3) := by decide +kernel
theorem dX8_spill_5 : decode cX8_spill 5 = .ok (.ifCond .ne 6, 3) := by decide +kernel
theorem dX8_spill_8 : decode cX8_spill 8 = .ok (.bipush (-2), 2) := by decide +kernel
theorem dX8_spill_10 : decode cX8_spill 10 = .ok (.ireturn, 1) := by decide +kernel
theorem dX8_spill_11 : decode cX8_spill 11 = .ok (.iload_n 2, 1) := by decide +kernel
theorem dX8_spill_12 : decode cX8_spill 12 = .ok (.i2l, 1) := by decide +kernel
theorem dX8_spill_13 : decode cX8_spill 13 = .ok (.lconst 0, 1) := by decide +kernel
theorem dX8_spill_14 : decode cX8_spill 14 = .ok (.ldc2_w 183, 3) := by decide +kernel
theorem dX8_spill_17 : decode cX8_spill 17 = .ok (.invokestatic 73, 3) := by decide +kernel
theorem dX8_spill_20 : decode cX8_spill 20 = .ok (.ifCond .ne 6, 3) := by decide +kernel
theorem dX8_spill_23 : decode cX8_spill 23 = .ok (.bipush (-3), 2) := by decide +kernel
theorem dX8_spill_25 : decode cX8_spill 25 = .ok (.ireturn, 1) := by decide +kernel
theorem dX8_spill_26 : decode cX8_spill 26 = .ok (.aload_n 0, 1) := by decide +kernel
theorem dX8_spill_27 : decode cX8_spill 27 = .ok (.getfield 7, 3) := by decide +kernel
theorem dX8_spill_30 : decode cX8_spill 30 = .ok (.iconst 3, 1) := by decide +kernel
theorem dX8_spill_31 : decode cX8_spill 31 = .ok (.iload_n 1, 1) := by decide +kernel
theorem dX8_spill_32 : decode cX8_spill 32 = .ok (.iadd, 1) := by decide +kernel
theorem dX8_spill_33 : decode cX8_spill 33 = .ok (.iaload, 1) := by decide +kernel
theorem dX8_spill_34 : decode cX8_spill 34 = .ok (.istore_n 3, 1) := by decide +kernel
theorem dX8_spill_35 : decode cX8_spill 35 = .ok (.aload_n 0, 1) := by decide +kernel
theorem dX8_spill_36 : decode cX8_spill 36 = .ok (.getfield 7, 3) := by decide +kernel
theorem dX8_spill_39 : decode cX8_spill 39 = .ok (.iconst 3, 1) := by decide +kernel
theorem dX8_spill_40 : decode cX8_spill 40 = .ok (.iload_n 1, 1) := by decide +kernel
theorem dX8_spill_41 : decode cX8_spill 41 = .ok (.iadd, 1) := by decide +kernel
theorem dX8_spill_42 : decode cX8_spill 42 = .ok (.iload_n 2, 1) := by decide +kernel
theorem dX8_spill_43 : decode cX8_spill 43 = .ok (.iastore, 1) := by decide +kernel
theorem dX8_spill_44 : decode cX8_spill 44 = .ok (.iload_n 3, 1) := by decide +kernel
theorem dX8_spill_45 : decode cX8_spill 45 = .ok (.ireturn, 1) := by decide +kernel
theorem dX8_stamp_0 : decode cX8_stamp 0 = .ok (.aload_n 0, 1) := by decide +kernel
theorem dX8_stamp_1 : decode cX8_stamp 1 = .ok (.iload_n 1, 1) := by decide +kernel
theorem dX8_stamp_2 : decode cX8_stamp 2 = .ok (.invokevirtual 160, 3) := by decide +kernel
theorem dX8_stamp_5 : decode cX8_stamp 5 = .ok (.ifCond .ne 6, 3) := by decide +kernel
theorem dX8_stamp_8 : decode cX8_stamp 8 = .ok (.bipush (-2), 2) := by decide +kernel
theorem dX8_stamp_10 : decode cX8_stamp 10 = .ok (.ireturn, 1) := by decide +kernel
theorem dX8_stamp_11 : decode cX8_stamp 11 = .ok (.iload_n 2, 1) := by decide +kernel
theorem dX8_stamp_12 : decode cX8_stamp 12 = .ok (.i2l, 1) := by decide +kernel
theorem dX8_stamp_13 : decode cX8_stamp 13 = .ok (.lconst 0, 1) := by decide +kernel
theorem dX8_stamp_14 : decode cX8_stamp 14 = .ok (.ldc2_w 188, 3) := by decide +kernel
theorem dX8_stamp_17 : decode cX8_stamp 17 = .ok (.invokestatic 73, 3) := by decide +kernel
theorem dX8_stamp_20 : decode cX8_stamp 20 = .ok (.ifCond .ne 6, 3) := by decide +kernel
theorem dX8_stamp_23 : decode cX8_stamp 23 = .ok (.bipush (-3), 2) := by decide +kernel
theorem dX8_stamp_25 : decode cX8_stamp 25 = .ok (.ireturn, 1) := by decide +kernel
theorem dX8_stamp_26 : decode cX8_stamp 26 = .ok (.aload_n 0, 1) := by decide +kernel
theorem dX8_stamp_27 : decode cX8_stamp 27 = .ok (.getfield 7, 3) := by decide +kernel
theorem dX8_stamp_30 : decode cX8_stamp 30 = .ok (.bipush 33, 2) := by decide +kernel
theorem dX8_stamp_32 : decode cX8_stamp 32 = .ok (.iload_n 1, 1) := by decide +kernel
theorem dX8_stamp_33 : decode cX8_stamp 33 = .ok (.iadd, 1) := by decide +kernel
theorem dX8_stamp_34 : decode cX8_stamp 34 = .ok (.iaload, 1) := by decide +kernel
theorem dX8_stamp_35 : decode cX8_stamp 35 = .ok (.iconst (-1), 1) := by decide +kernel
theorem dX8_stamp_36 : decode cX8_stamp 36 = .ok (.if_icmp .eq 6, 3) := by decide +kernel
theorem dX8_stamp_39 : decode cX8_stamp 39 = .ok (.bipush (-4), 2) := by decide +kernel
theorem dX8_stamp_41 : decode cX8_stamp 41 = .ok (.ireturn, 1) := by decide +kernel
theorem dX8_stamp_42 : decode cX8_stamp 42 = .ok (.aload_n 0, 1) := by decide +kernel
theorem dX8_stamp_43 : decode cX8_stamp 43 = .ok (.getfield 7, 3) := by decide +kernel
theorem dX8_stamp_46 : decode cX8_stamp 46 = .ok (.bipush 21, 2) := by decide +kernel
theorem dX8_stamp_48 : decode cX8_stamp 48 = .ok (.iload_n 1, 1) := by decide +kernel
theorem dX8_stamp_49 : decode cX8_stamp 49 = .ok (.iadd, 1) := by decide +kernel
theorem dX8_stamp_50 : decode cX8_stamp 50 = .ok (.iaload, 1) := by decide +kernel
theorem dX8_stamp_51 : decode cX8_stamp 51 = .ok (.istore_n 3, 1) := by decide +kernel
theorem dX8_stamp_52 : decode cX8_stamp 52 = .ok (.aload_n 0, 1) := by decide +kernel
theorem dX8_stamp_53 : decode cX8_stamp 53 = .ok (.getfield 7, 3) := by decide +kernel
theorem dX8_stamp_56 : decode cX8_stamp 56 = .ok (.bipush 21, 2) := by decide +kernel
theorem dX8_stamp_58 : decode cX8_stamp 58 = .ok (.iload_n 1, 1) := by decide +kernel
theorem dX8_stamp_59 : decode cX8_stamp 59 = .ok (.iadd, 1) := by decide +kernel
theorem dX8_stamp_60 : decode cX8_stamp 60 = .ok (.iload_n 2, 1) := by decide +kernel
theorem dX8_stamp_61 : decode cX8_stamp 61 = .ok (.iastore, 1) := by decide +kernel
theorem dX8_stamp_62 : decode cX8_stamp 62 = .ok (.iload_n 3, 1) := by decide +kernel
theorem dX8_stamp_63 : decode cX8_stamp 63 = .ok (.ireturn, 1) := by decide +kernel
theorem dX8_rain_0 : decode cX8_rain 0 = .ok (.iconst 0, 1) := by decide +kernel
theorem dX8_rain_1 : decode cX8_rain 1 = .ok (.istore_n 1, 1) := by decide +kernel
theorem dX8_rain_2 : decode cX8_rain 2 = .ok (.iconst 0, 1) := by decide +kernel
theorem dX8_rain_3 : decode cX8_rain 3 = .ok (.istore_n 2, 1) := by decide +kernel
theorem dX8_rain_4 : decode cX8_rain 4 = .ok (.iload_n 2, 1) := by decide +kernel
theorem dX8_rain_5 : decode cX8_rain 5 = .ok (.aload_n 0, 1) := by decide +kernel
theorem dX8_rain_6 : decode cX8_rain 6 = .ok (.getfield 61, 3) := by decide +kernel
theorem dX8_rain_9 : decode cX8_rain 9 = .ok (.if_icmp .ge 40, 3) := by decide +kernel
theorem dX8_rain_12 : decode cX8_rain 12 = .ok (.aload_n 0, 1) := by decide +kernel
theorem dX8_rain_13 : decode cX8_rain 13 = .ok (.getfield 7, 3) := by decide +kernel
theorem dX8_rain_16 : decode cX8_rain 16 = .ok (.iconst 3, 1) := by decide +kernel
theorem dX8_rain_17 : decode cX8_rain 17 = .ok (.iload_n 2, 1) := by decide +kernel
theorem dX8_rain_18 : decode cX8_rain 18 = .ok (.iadd, 1) := by decide +kernel
theorem dX8_rain_19 : decode cX8_rain 19 = .ok (.dup2, 1) := by decide +kernel
theorem dX8_rain_20 : decode cX8_rain 20 = .ok (.iaload, 1) := by decide +kernel
theorem dX8_rain_21 : decode cX8_rain 21 = .ok (.iconst 2, 1) := by decide +kernel
theorem dX8_rain_22 : decode cX8_rain 22 = .ok (.idiv, 1) := by decide +kernel
theorem dX8_rain_23 : decode cX8_rain 23 = .ok (.iastore, 1) := by decide +kernel
theorem dX8_rain_24 : decode cX8_rain 24 = .ok (.iload_n 1, 1) := by decide +kernel
theorem dX8_rain_25 : decode cX8_rain 25 = .ok (.aload_n 0, 1) := by decide +kernel
theorem dX8_rain_26 : decode cX8_rain 26 = .ok (.getfield 7, 3) := by decide +kernel
theorem dX8_rain_29 : decode cX8_rain 29 = .ok (.iconst 3, 1) := by decide +kernel
theorem dX8_rain_30 : decode cX8_rain 30 = .ok (.iload_n 2, 1) := by decide +kernel
theorem dX8_rain_31 : decode cX8_rain 31 = .ok (.iadd, 1) := by decide +kernel
theorem dX8_rain_32 : decode cX8_rain 32 = .ok (.iaload, 1) := by decide +kernel
theorem dX8_rain_33 : decode cX8_rain 33 = .ok (.ifCond .le 7, 3) := by decide +kernel
theorem dX8_rain_36 : decode cX8_rain 36 = .ok (.iconst 1, 1) := by decide +kernel
theorem dX8_rain_37 : decode cX8_rain 37 = .ok (.goto 4, 3) := by decide +kernel
theorem dX8_rain_40 : decode cX8_rain 40 = .ok (.iconst 0, 1) := by decide +kernel
theorem dX8_rain_41 : decode cX8_rain 41 = .ok (.iadd, 1) := by decide +kernel
theorem dX8_rain_42 : decode cX8_rain 42 = .ok (.istore_n 1, 1) := by decide +kernel
theorem dX8_rain_43 : decode cX8_rain 43 = .ok (.iinc 2 1, 3) := by decide +kernel
theorem dX8_rain_46 : decode cX8_rain 46 = .ok (.goto (-42), 3) := by decide +kernel
theorem dX8_rain_49 : decode cX8_rain 49 = .ok (.iload_n 1, 1) := by decide +kernel
theorem dX8_rain_50 : decode cX8_rain 50 = .ok (.ireturn, 1) := by decide +kernel
theorem dX8_sit_0 : decode cX8_sit 0 = .ok (.iload_n 1, 1) := by decide +kernel
theorem dX8_sit_1 : decode cX8_sit 1 = .ok (.iconst (-1), 1) := by decide +kernel
theorem dX8_sit_2 : decode cX8_sit 2 = .ok (.if_icmp .eq 14, 3) := by decide +kernel
theorem dX8_sit_5 : decode cX8_sit 5 = .ok (.aload_n 0, 1) := by decide +kernel
theorem dX8_sit_6 : decode cX8_sit 6 = .ok (.iload_n 1, 1) := by decide +kernel
theorem dX8_sit_7 : decode cX8_sit 7 = .ok (.invokevirtual 151, 3) := by decide +kernel
theorem dX8_sit_10 : decode cX8_sit 10 = .ok (.ifCond .ne 6, 3) := by decide +kernel
theorem dX8_sit_13 : decode cX8_sit 13 = .ok (.bipush (-2), 2) := by decide +kernel
theorem dX8_sit_15 : decode cX8_sit 15 = .ok (.ireturn, 1) := by decide +kernel
theorem dX8_sit_16 : decode cX8_sit 16 = .ok (.aload_n 0, 1) := by decide +kernel
theorem dX8_sit_17 : decode cX8_sit 17 = .ok (.getfield 7, 3) := by decide +kernel
theorem dX8_sit_20 : decode cX8_sit 20 = .ok (.iconst 2, 1) := by decide +kernel
theorem dX8_sit_21 : decode cX8_sit 21 = .ok (.iaload, 1) := by decide +kernel
theorem dX8_sit_22 : decode cX8_sit 22 = .ok (.istore_n 2, 1) := by decide +kernel
theorem dX8_sit_23 : decode cX8_sit 23 = .ok (.aload_n 0, 1) := by decide +kernel
theorem dX8_sit_24 : decode cX8_sit 24 = .ok (.getfield 7, 3) := by decide +kernel
theorem dX8_sit_27 : decode cX8_sit 27 = .ok (.iconst 2, 1) := by decide +kernel
theorem dX8_sit_28 : decode cX8_sit 28 = .ok (.iload_n 1, 1) := by decide +kernel
theorem dX8_sit_29 : decode cX8_sit 29 = .ok (.iastore, 1) := by decide +kernel
theorem dX8_sit_30 : decode cX8_sit 30 = .ok (.iload_n 2, 1) := by decide +kernel
theorem dX8_sit_31 : decode cX8_sit 31 = .ok (.ireturn, 1) := by decide +kernel
theorem dX8_keep_0 : decode cX8_keep 0 = .ok (.iload_n 1, 1) := by decide +kernel
theorem dX8_keep_1 : decode cX8_keep 1 = .ok (.i2l, 1) := by decide +kernel
theorem dX8_keep_2 : decode cX8_keep 2 = .ok (.lconst 0, 1) := by decide +kernel
theorem dX8_keep_3 : decode cX8_keep 3 = .ok (.lconst 1, 1) := by decide +kernel
theorem dX8_keep_4 : decode cX8_keep 4 = .ok (.invokestatic 73, 3) := by decide +kernel
theorem dX8_keep_7 : decode cX8_keep 7 = .ok (.ifCond .ne 6, 3) := by decide +kernel
theorem dX8_keep_10 : decode cX8_keep 10 = .ok (.bipush (-2), 2) := by decide +kernel
theorem dX8_keep_12 : decode cX8_keep 12 = .ok (.ireturn, 1) := by decide +kernel
theorem dX8_keep_13 : decode cX8_keep 13 = .ok (.aload_n 0, 1) := by decide +kernel
theorem dX8_keep_14 : decode cX8_keep 14 = .ok (.iconst 0, 1) := by decide +kernel
theorem dX8_keep_15 : decode cX8_keep 15 = .ok (.iconst 1, 1) := by decide +kernel
theorem dX8_keep_16 : decode cX8_keep 16 = .ok (.iload_n 1, 1) := by decide +kernel
theorem dX8_keep_17 : decode cX8_keep 17 = .ok (.iadd, 1) := by decide +kernel
theorem dX8_keep_18 : decode cX8_keep 18 = .ok (.invokevirtual 67, 3) := by decide +kernel
theorem dX8_keep_21 : decode cX8_keep 21 = .ok (.aload_n 0, 1) := by decide +kernel
theorem dX8_keep_22 : decode cX8_keep 22 = .ok (.getfield 13, 3) := by decide +kernel
theorem dX8_keep_25 : decode cX8_keep 25 = .ok (.iload_n 1, 1) := by decide +kernel
theorem dX8_keep_26 : decode cX8_keep 26 = .ok (.iconst 1, 1) := by decide +kernel
theorem dX8_keep_27 : decode cX8_keep 27 = .ok (.bastore, 1) := by decide +kernel
theorem dX8_keep_28 : decode cX8_keep 28 = .ok (.aload_n 0, 1) := by decide +kernel
theorem dX8_keep_29 : decode cX8_keep 29 = .ok (.getfield 7, 3) := by decide +kernel
theorem dX8_keep_32 : decode cX8_keep 32 = .ok (.iconst 0, 1) := by decide +kernel
theorem dX8_keep_33 : decode cX8_keep 33 = .ok (.iaload, 1) := by decide +kernel
theorem dX8_keep_34 : decode cX8_keep 34 = .ok (.ireturn, 1) := by decide +kernel
theorem dX8_back_0 : decode cX8_back 0 = .ok (.iload_n 1, 1) := by decide +kernel
theorem dX8_back_1 : decode cX8_back 1 = .ok (.i2l, 1) := by decide +kernel
theorem dX8_back_2 : decode cX8_back 2 = .ok (.lconst 0, 1) := by decide +kernel
theorem dX8_back_3 : decode cX8_back 3 = .ok (.lconst 1, 1) := by decide +kernel
theorem dX8_back_4 : decode cX8_back 4 = .ok (.invokestatic 73, 3) := by decide +kernel
theorem dX8_back_7 : decode cX8_back 7 = .ok (.ifCond .ne 6, 3) := by decide +kernel
theorem dX8_back_10 : decode cX8_back 10 = .ok (.bipush (-2), 2) := by decide +kernel
theorem dX8_back_12 : decode cX8_back 12 = .ok (.ireturn, 1) := by decide +kernel
theorem dX8_back_13 : decode cX8_back 13 = .ok (.aload_n 0, 1) := by decide +kernel
theorem dX8_back_14 : decode cX8_back 14 = .ok (.getfield 13, 3) := by decide +kernel
theorem dX8_back_17 : decode cX8_back 17 = .ok (.iload_n 1, 1) := by decide +kernel
theorem dX8_back_18 : decode cX8_back 18 = .ok (.baload, 1) := by decide +kernel
theorem dX8_back_19 : decode cX8_back 19 = .ok (.ifCond .ne 6, 3) := by decide +kernel
theorem dX8_back_22 : decode cX8_back 22 = .ok (.bipush (-4), 2) := by decide +kernel
theorem dX8_back_24 : decode cX8_back 24 = .ok (.ireturn, 1) := by decide +kernel
theorem dX8_back_25 : decode cX8_back 25 = .ok (.aload_n 0, 1) := by decide +kernel
theorem dX8_back_26 : decode cX8_back 26 = .ok (.iconst 1, 1) := by decide +kernel
theorem dX8_back_27 : decode cX8_back 27 = .ok (.iload_n 1, 1) := by decide +kernel
theorem dX8_back_28 : decode cX8_back 28 = .ok (.iadd, 1) := by decide +kernel
theorem dX8_back_29 : decode cX8_back 29 = .ok (.iconst 0, 1) := by decide +kernel
theorem dX8_back_30 : decode cX8_back 30 = .ok (.invokevirtual 67, 3) := by decide +kernel
theorem dX8_back_33 : decode cX8_back 33 = .ok (.aload_n 0, 1) := by decide +kernel
theorem dX8_back_34 : decode cX8_back 34 = .ok (.getfield 7, 3) := by decide +kernel
theorem dX8_back_37 : decode cX8_back 37 = .ok (.iconst 0, 1) := by decide +kernel
theorem dX8_back_38 : decode cX8_back 38 = .ok (.iaload, 1) := by decide +kernel
theorem dX8_back_39 : decode cX8_back 39 = .ok (.ireturn, 1) := by decide +kernel
theorem dX8_tryFor_0 : decode cX8_tryFor 0 = .ok (.iconst 0, 1) := by decide +kernel
theorem dX8_tryFor_1 : decode cX8_tryFor 1 = .ok (.istore_n 2, 1) := by decide +kernel
theorem dX8_tryFor_2 : decode cX8_tryFor 2 = .ok (.iload_n 2, 1) := by decide +kernel
theorem dX8_tryFor_3 : decode cX8_tryFor 3 = .ok (.iload_n 1, 1) := by decide +kernel
theorem dX8_tryFor_4 : decode cX8_tryFor 4 = .ok (.if_icmp .ge 15, 3) := by decide +kernel
theorem dX8_tryFor_7 : decode cX8_tryFor 7 = .ok (.aload_n 0, 1) := by decide +kernel
theorem dX8_tryFor_8 : decode cX8_tryFor 8 = .ok (.bipush 117, 2) := by decide +kernel
theorem dX8_tryFor_10 : decode cX8_tryFor 10 = .ok (.invokevirtual 185, 3) := by decide +kernel
theorem dX8_tryFor_13 : decode cX8_tryFor 13 = .ok (.iinc 2 1, 3) := by decide +kernel
theorem dX8_tryFor_16 : decode cX8_tryFor 16 = .ok (.goto (-14), 3) := by decide +kernel
theorem dX8_tryFor_19 : decode cX8_tryFor 19 = .ok (.return_, 1) := by decide +kernel
theorem dX8_later_0 : decode cX8_later 0 = .ok (.iload_n 3, 1) := by decide +kernel
theorem dX8_later_1 : decode cX8_later 1 = .ok (.i2l, 1) := by decide +kernel
theorem dX8_later_2 : decode cX8_later 2 = .ok (.lconst 0, 1) := by decide +kernel
theorem dX8_later_3 : decode cX8_later 3 = .ok (.ldc2_w 190, 3) := by decide +kernel
theorem dX8_later_6 : decode cX8_later 6 = .ok (.invokestatic 73, 3) := by decide +kernel
theorem dX8_later_9 : decode cX8_later 9 = .ok (.ifCond .ne 6, 3) := by decide +kernel
theorem dX8_later_12 : decode cX8_later 12 = .ok (.bipush (-3), 2) := by decide +kernel
theorem dX8_later_14 : decode cX8_later 14 = .ok (.ireturn, 1) := by decide +kernel
theorem dX8_later_15 : decode cX8_later 15 = .ok (.iload_n 3, 1) := by decide +kernel
theorem dX8_later_16 : decode cX8_later 16 = .ok (.iconst 2, 1) := by decide +kernel
theorem dX8_later_17 : decode cX8_later 17 = .ok (.if_icmp .ge 14, 3) := by decide +kernel
theorem dX8_later_20 : decode cX8_later 20 = .ok (.aload_n 0, 1) := by decide +kernel
theorem dX8_later_21 : decode cX8_later 21 = .ok (.iload_n 1, 1) := by decide +kernel
theorem dX8_later_22 : decode cX8_later 22 = .ok (.invokevirtual 160, 3) := by decide +kernel
theorem dX8_later_25 : decode cX8_later 25 = .ok (.ifCond .ne 17, 3) := by decide +kernel
theorem dX8_later_28 : decode cX8_later 28 = .ok (.goto 11, 3) := by decide +kernel
theorem dX8_later_31 : decode cX8_later 31 = .ok (.aload_n 0, 1) := by decide +kernel
theorem dX8_later_32 : decode cX8_later 32 = .ok (.iload_n 1, 1) := by decide +kernel
theorem dX8_later_33 : decode cX8_later 33 = .ok (.invokevirtual 157, 3) := by decide +kernel
theorem dX8_later_36 : decode cX8_later 36 = .ok (.ifCond .ne 6, 3) := by decide +kernel
theorem dX8_later_39 : decode cX8_later 39 = .ok (.bipush (-2), 2) := by decide +kernel
theorem dX8_later_41 : decode cX8_later 41 = .ok (.ireturn, 1) := by decide +kernel
theorem dX8_later_42 : decode cX8_later 42 = .ok (.iload_n 2, 1) := by decide +kernel
theorem dX8_later_43 : decode cX8_later 43 = .ok (.i2l, 1) := by decide +kernel
theorem dX8_later_44 : decode cX8_later 44 = .ok (.lconst 0, 1) := by decide +kernel
theorem dX8_later_45 : decode cX8_later 45 = .ok (.ldc2_w 183, 3) := by decide +kernel
theorem dX8_later_48 : decode cX8_later 48 = .ok (.invokestatic 73, 3) := by decide +kernel
theorem dX8_later_51 : decode cX8_later 51 = .ok (.ifCond .ne 6, 3) := by decide +kernel
theorem dX8_later_54 : decode cX8_later 54 = .ok (.bipush (-3), 2) := by decide +kernel
theorem dX8_later_56 : decode cX8_later 56 = .ok (.ireturn, 1) := by decide +kernel
theorem dX8_later_57 : decode cX8_later 57 = .ok (.aload_n 0, 1) := by decide +kernel
theorem dX8_later_58 : decode cX8_later 58 = .ok (.iconst 0, 1) := by decide +kernel
theorem dX8_later_59 : decode cX8_later 59 = .ok (.iconst 3, 1) := by decide +kernel
theorem dX8_later_60 : decode cX8_later 60 = .ok (.invokevirtual 67, 3) := by decide +kernel
theorem dX8_later_63 : decode cX8_later 63 = .ok (.aload_n 0, 1) := by decide +kernel
theorem dX8_later_64 : decode cX8_later 64 = .ok (.iload_n 2, 1) := by decide +kernel
theorem dX8_later_65 : decode cX8_later 65 = .ok (.invokevirtual 192, 3) := by decide +kernel
theorem dX8_later_68 : decode cX8_later 68 = .ok (.bipush 117, 2) := by decide +kernel
theorem dX8_later_70 : decode cX8_later 70 = .ok (.istore 4, 2) := by decide +kernel
theorem dX8_later_72 : decode cX8_later 72 = .ok (.iload_n 3, 1) := by decide +kernel
theorem dX8_later_73 : decode cX8_later 73 = .ok (.ifCond .ne 18, 3) := by decide +kernel
theorem dX8_later_76 : decode cX8_later 76 = .ok (.aload_n 0, 1) := by decide +kernel
theorem dX8_later_77 : decode cX8_later 77 = .ok (.getfield 7, 3) := by decide +kernel
theorem dX8_later_80 : decode cX8_later 80 = .ok (.iload 4, 2) := by decide +kernel
theorem dX8_later_82 : decode cX8_later 82 = .ok (.bipush 15, 2) := by decide +kernel
theorem dX8_later_84 : decode cX8_later 84 = .ok (.iadd, 1) := by decide +kernel
theorem dX8_later_85 : decode cX8_later 85 = .ok (.iload_n 1, 1) := by decide +kernel
theorem dX8_later_86 : decode cX8_later 86 = .ok (.iadd, 1) := by decide +kernel
theorem dX8_later_87 : decode cX8_later 87 = .ok (.iaload, 1) := by decide +kernel
theorem dX8_later_88 : decode cX8_later 88 = .ok (.goto 34, 3) := by decide +kernel
theorem dX8_later_91 : decode cX8_later 91 = .ok (.iload_n 3, 1) := by decide +kernel
theorem dX8_later_92 : decode cX8_later 92 = .ok (.iconst 1, 1) := by decide +kernel
theorem dX8_later_93 : decode cX8_later 93 = .ok (.if_icmp .ne 18, 3) := by decide +kernel
theorem dX8_later_96 : decode cX8_later 96 = .ok (.aload_n 0, 1) := by decide +kernel
theorem dX8_later_97 : decode cX8_later 97 = .ok (.getfield 7, 3) := by decide +kernel
theorem dX8_later_100 : decode cX8_later 100 = .ok (.iload 4, 2) := by decide +kernel
theorem dX8_later_102 : decode cX8_later 102 = .ok (.bipush 21, 2) := by decide +kernel
theorem dX8_later_104 : decode cX8_later 104 = .ok (.iadd, 1) := by decide +kernel
theorem dX8_later_105 : decode cX8_later 105 = .ok (.iload_n 1, 1) := by decide +kernel
theorem dX8_later_106 : decode cX8_later 106 = .ok (.iadd, 1) := by decide +kernel
theorem dX8_later_107 : decode cX8_later 107 = .ok (.iaload, 1) := by decide +kernel
theorem dX8_later_108 : decode cX8_later 108 = .ok (.goto 14, 3) := by decide +kernel
theorem dX8_later_111 : decode cX8_later 111 = .ok (.aload_n 0, 1) := by decide +kernel
theorem dX8_later_112 : decode cX8_later 112 = .ok (.getfield 7, 3) := by decide +kernel
theorem dX8_later_115 : decode cX8_later 115 = .ok (.iload 4, 2) := by decide +kernel
theorem dX8_later_117 : decode cX8_later 117 = .ok (.iconst 3, 1) := by decide +kernel
theorem dX8_later_118 : decode cX8_later 118 = .ok (.iadd, 1) := by decide +kernel
theorem dX8_later_119 : decode cX8_later 119 = .ok (.iload_n 1, 1) := by decide +kernel
theorem dX8_later_120 : decode cX8_later 120 = .ok (.iadd, 1) := by decide +kernel
theorem dX8_later_121 : decode cX8_later 121 = .ok (.iaload, 1) := by decide +kernel
theorem dX8_later_122 : decode cX8_later 122 = .ok (.ireturn, 1) := by decide +kernel
theorem dX8_filedIn_0 : decode cX8_filedIn 0 = .ok (.bipush 117, 2) := by decide +kernel
theorem dX8_filedIn_2 : decode cX8_filedIn 2 = .ok (.istore_n 3, 1) := by decide +kernel
theorem dX8_filedIn_3 : decode cX8_filedIn 3 = .ok (.iconst 0, 1) := by decide +kernel
theorem dX8_filedIn_4 : decode cX8_filedIn 4 = .ok (.istore 4, 2) := by decide +kernel
theorem dX8_filedIn_6 : decode cX8_filedIn 6 = .ok (.iload 4, 2) := by decide +kernel
theorem dX8_filedIn_8 : decode cX8_filedIn 8 = .ok (.iload_n 2, 1) := by decide +kernel
theorem dX8_filedIn_9 : decode cX8_filedIn 9 = .ok (.if_icmp .ge 29, 3) := by decide +kernel
theorem dX8_filedIn_12 : decode cX8_filedIn 12 = .ok (.aload_n 0, 1) := by decide +kernel
theorem dX8_filedIn_13 : decode cX8_filedIn 13 = .ok (.getfield 7, 3) := by decide +kernel
theorem dX8_filedIn_16 : decode cX8_filedIn 16 = .ok (.iload_n 3, 1) := by decide +kernel
theorem dX8_filedIn_17 : decode cX8_filedIn 17 = .ok (.bipush 33, 2) := by decide +kernel
theorem dX8_filedIn_19 : decode cX8_filedIn 19 = .ok (.iadd, 1) := by decide +kernel
theorem dX8_filedIn_20 : decode cX8_filedIn 20 = .ok (.iload_n 1, 1) := by decide +kernel
theorem dX8_filedIn_21 : decode cX8_filedIn 21 = .ok (.iadd, 1) := by decide +kernel
theorem dX8_filedIn_22 : decode cX8_filedIn 22 = .ok (.iaload, 1) := by decide +kernel
theorem dX8_filedIn_23 : decode cX8_filedIn 23 = .ok (.iconst (-1), 1) := by decide +kernel
theorem dX8_filedIn_24 : decode cX8_filedIn 24 = .ok (.if_icmp .ne 14, 3) := by decide +kernel
theorem dX8_filedIn_27 : decode cX8_filedIn 27 = .ok (.aload_n 0, 1) := by decide +kernel
theorem dX8_filedIn_28 : decode cX8_filedIn 28 = .ok (.iload_n 3, 1) := by decide +kernel
theorem dX8_filedIn_29 : decode cX8_filedIn 29 = .ok (.invokevirtual 185, 3) := by decide +kernel
theorem dX8_filedIn_32 : decode cX8_filedIn 32 = .ok (.iinc 4 1, 3) := by decide +kernel
theorem dX8_filedIn_35 : decode cX8_filedIn 35 = .ok (.goto (-29), 3) := by decide +kernel
theorem dX8_filedIn_38 : decode cX8_filedIn 38 = .ok (.aload_n 0, 1) := by decide +kernel
theorem dX8_filedIn_39 : decode cX8_filedIn 39 = .ok (.getfield 7, 3) := by decide +kernel
theorem dX8_filedIn_42 : decode cX8_filedIn 42 = .ok (.iload_n 3, 1) := by decide +kernel
theorem dX8_filedIn_43 : decode cX8_filedIn 43 = .ok (.bipush 33, 2) := by decide +kernel
theorem dX8_filedIn_45 : decode cX8_filedIn 45 = .ok (.iadd, 1) := by decide +kernel
theorem dX8_filedIn_46 : decode cX8_filedIn 46 = .ok (.iload_n 1, 1) := by decide +kernel
theorem dX8_filedIn_47 : decode cX8_filedIn 47 = .ok (.iadd, 1) := by decide +kernel
theorem dX8_filedIn_48 : decode cX8_filedIn 48 = .ok (.iaload, 1) := by decide +kernel
theorem dX8_filedIn_49 : decode cX8_filedIn 49 = .ok (.ireturn, 1) := by decide +kernel
theorem dX8_filed_0 : decode cX8_filed 0 = .ok (.aload_n 0, 1) := by decide +kernel
theorem dX8_filed_1 : decode cX8_filed 1 = .ok (.iload_n 1, 1) := by decide +kernel
theorem dX8_filed_2 : decode cX8_filed 2 = .ok (.invokevirtual 160, 3) := by decide +kernel
theorem dX8_filed_5 : decode cX8_filed 5 = .ok (.ifCond .ne 6, 3) := by decide +kernel
theorem dX8_filed_8 : decode cX8_filed 8 = .ok (.bipush (-2), 2) := by decide +kernel
theorem dX8_filed_10 : decode cX8_filed 10 = .ok (.ireturn, 1) := by decide +kernel
theorem dX8_filed_11 : decode cX8_filed 11 = .ok (.aload_n 0, 1) := by decide +kernel
theorem dX8_filed_12 : decode cX8_filed 12 = .ok (.iconst 0, 1) := by decide +kernel
theorem dX8_filed_13 : decode cX8_filed 13 = .ok (.iconst 3, 1) := by decide +kernel
theorem dX8_filed_14 : decode cX8_filed 14 = .ok (.invokevirtual 67, 3) := by decide +kernel
theorem dX8_filed_17 : decode cX8_filed 17 = .ok (.aload_n 0, 1) := by decide +kernel
theorem dX8_filed_18 : decode cX8_filed 18 = .ok (.iload_n 1, 1) := by decide +kernel
theorem dX8_filed_19 : decode cX8_filed 19 = .ok (.sipush 200, 3) := by decide +kernel
theorem dX8_filed_22 : decode cX8_filed 22 = .ok (.invokevirtual 195, 3) := by decide +kernel
theorem dX8_filed_25 : decode cX8_filed 25 = .ok (.ireturn, 1) := by decide +kernel
theorem dX8_queue_0 : decode cX8_queue 0 = .ok (.aload_n 0, 1) := by decide +kernel
theorem dX8_queue_1 : decode cX8_queue 1 = .ok (.iload_n 1, 1) := by decide +kernel
theorem dX8_queue_2 : decode cX8_queue 2 = .ok (.invokevirtual 151, 3) := by decide +kernel
theorem dX8_queue_5 : decode cX8_queue 5 = .ok (.ifCond .ne 6, 3) := by decide +kernel
theorem dX8_queue_8 : decode cX8_queue 8 = .ok (.bipush (-2), 2) := by decide +kernel
theorem dX8_queue_10 : decode cX8_queue 10 = .ok (.ireturn, 1) := by decide +kernel
theorem dX8_queue_11 : decode cX8_queue 11 = .ok (.iload_n 2, 1) := by decide +kernel
theorem dX8_queue_12 : decode cX8_queue 12 = .ok (.i2l, 1) := by decide +kernel
theorem dX8_queue_13 : decode cX8_queue 13 = .ok (.lconst 0, 1) := by decide +kernel
theorem dX8_queue_14 : decode cX8_queue 14 = .ok (.ldc2_w 183, 3) := by decide +kernel
theorem dX8_queue_17 : decode cX8_queue 17 = .ok (.invokestatic 73, 3) := by decide +kernel
theorem dX8_queue_20 : decode cX8_queue 20 = .ok (.ifCond .ne 6, 3) := by decide +kernel
theorem dX8_queue_23 : decode cX8_queue 23 = .ok (.bipush (-3), 2) := by decide +kernel
theorem dX8_queue_25 : decode cX8_queue 25 = .ok (.ireturn, 1) := by decide +kernel
theorem dX8_queue_26 : decode cX8_queue 26 = .ok (.aload_n 0, 1) := by decide +kernel
theorem dX8_queue_27 : decode cX8_queue 27 = .ok (.iconst 0, 1) := by decide +kernel
theorem dX8_queue_28 : decode cX8_queue 28 = .ok (.iconst 3, 1) := by decide +kernel
theorem dX8_queue_29 : decode cX8_queue 29 = .ok (.invokevirtual 67, 3) := by decide +kernel
theorem dX8_queue_32 : decode cX8_queue 32 = .ok (.aload_n 0, 1) := by decide +kernel
theorem dX8_queue_33 : decode cX8_queue 33 = .ok (.iload_n 2, 1) := by decide +kernel
theorem dX8_queue_34 : decode cX8_queue 34 = .ok (.invokevirtual 192, 3) := by decide +kernel
theorem dX8_queue_37 : decode cX8_queue 37 = .ok (.bipush 117, 2) := by decide +kernel
theorem dX8_queue_39 : decode cX8_queue 39 = .ok (.istore_n 3, 1) := by decide +kernel
theorem dX8_queue_40 : decode cX8_queue 40 = .ok (.iconst 0, 1) := by decide +kernel
theorem dX8_queue_41 : decode cX8_queue 41 = .ok (.istore 4, 2) := by decide +kernel
theorem dX8_queue_43 : decode cX8_queue 43 = .ok (.iconst 0, 1) := by decide +kernel
theorem dX8_queue_44 : decode cX8_queue 44 = .ok (.istore 5, 2) := by decide +kernel
theorem dX8_queue_46 : decode cX8_queue 46 = .ok (.iload 5, 2) := by decide +kernel
theorem dX8_queue_48 : decode cX8_queue 48 = .ok (.aload_n 0, 1) := by decide +kernel
theorem dX8_queue_49 : decode cX8_queue 49 = .ok (.getfield 64, 3) := by decide +kernel
theorem dX8_queue_52 : decode cX8_queue 52 = .ok (.if_icmp .ge 51, 3) := by decide +kernel
theorem dX8_queue_55 : decode cX8_queue 55 = .ok (.iload 4, 2) := by decide +kernel
theorem dX8_queue_57 : decode cX8_queue 57 = .ok (.aload_n 0, 1) := by decide +kernel
theorem dX8_queue_58 : decode cX8_queue 58 = .ok (.getfield 7, 3) := by decide +kernel
theorem dX8_queue_61 : decode cX8_queue 61 = .ok (.iload_n 3, 1) := by decide +kernel
theorem dX8_queue_62 : decode cX8_queue 62 = .ok (.bipush 15, 2) := by decide +kernel
theorem dX8_queue_64 : decode cX8_queue 64 = .ok (.iadd, 1) := by decide +kernel
theorem dX8_queue_65 : decode cX8_queue 65 = .ok (.iload 5, 2) := by decide +kernel
theorem dX8_queue_67 : decode cX8_queue 67 = .ok (.iadd, 1) := by decide +kernel
theorem dX8_queue_68 : decode cX8_queue 68 = .ok (.iaload, 1) := by decide +kernel
theorem dX8_queue_69 : decode cX8_queue 69 = .ok (.iload_n 1, 1) := by decide +kernel
theorem dX8_queue_70 : decode cX8_queue 70 = .ok (.if_icmp .ne 23, 3) := by decide +kernel
theorem dX8_queue_73 : decode cX8_queue 73 = .ok (.aload_n 0, 1) := by decide +kernel
theorem dX8_queue_74 : decode cX8_queue 74 = .ok (.getfield 7, 3) := by decide +kernel
theorem dX8_queue_77 : decode cX8_queue 77 = .ok (.iload_n 3, 1) := by decide +kernel
theorem dX8_queue_78 : decode cX8_queue 78 = .ok (.bipush 33, 2) := by decide +kernel
theorem dX8_queue_80 : decode cX8_queue 80 = .ok (.iadd, 1) := by decide +kernel
theorem dX8_queue_81 : decode cX8_queue 81 = .ok (.iload 5, 2) := by decide +kernel
theorem dX8_queue_83 : decode cX8_queue 83 = .ok (.iadd, 1) := by decide +kernel
theorem dX8_queue_84 : decode cX8_queue 84 = .ok (.iaload, 1) := by decide +kernel
theorem dX8_queue_85 : decode cX8_queue 85 = .ok (.iconst (-1), 1) := by decide +kernel
theorem dX8_queue_86 : decode cX8_queue 86 = .ok (.if_icmp .ne 7, 3) := by decide +kernel
theorem dX8_queue_89 : decode cX8_queue 89 = .ok (.iconst 1, 1) := by decide +kernel
theorem dX8_queue_90 : decode cX8_queue 90 = .ok (.goto 4, 3) := by decide +kernel
theorem dX8_queue_93 : decode cX8_queue 93 = .ok (.iconst 0, 1) := by decide +kernel
theorem dX8_queue_94 : decode cX8_queue 94 = .ok (.iadd, 1) := by decide +kernel
theorem dX8_queue_95 : decode cX8_queue 95 = .ok (.istore 4, 2) := by decide +kernel
theorem dX8_queue_97 : decode cX8_queue 97 = .ok (.iinc 5 1, 3) := by decide +kernel
theorem dX8_queue_100 : decode cX8_queue 100 = .ok (.goto (-54), 3) := by decide +kernel
theorem dX8_queue_103 : decode cX8_queue 103 = .ok (.iload 4, 2) := by decide +kernel
theorem dX8_queue_105 : decode cX8_queue 105 = .ok (.ireturn, 1) := by decide +kernel
theorem dX8_filedSet_0 : decode cX8_filedSet 0 = .ok (.iconst 0, 1) := by decide +kernel
theorem dX8_filedSet_1 : decode cX8_filedSet 1 = .ok (.istore_n 2, 1) := by decide +kernel
theorem dX8_filedSet_2 : decode cX8_filedSet 2 = .ok (.iconst 0, 1) := by decide +kernel
theorem dX8_filedSet_3 : decode cX8_filedSet 3 = .ok (.istore_n 3, 1) := by decide +kernel
theorem dX8_filedSet_4 : decode cX8_filedSet 4 = .ok (.iload_n 3, 1) := by decide +kernel
theorem dX8_filedSet_5 : decode cX8_filedSet 5 = .ok (.aload_n 0, 1) := by decide +kernel
theorem dX8_filedSet_6 : decode cX8_filedSet 6 = .ok (.getfield 64, 3) := by decide +kernel
theorem dX8_filedSet_9 : decode cX8_filedSet 9 = .ok (.if_icmp .ge 34, 3) := by decide +kernel
theorem dX8_filedSet_12 : decode cX8_filedSet 12 = .ok (.iload_n 2, 1) := by decide +kernel
theorem dX8_filedSet_13 : decode cX8_filedSet 13 = .ok (.aload_n 0, 1) := by decide +kernel
theorem dX8_filedSet_14 : decode cX8_filedSet 14 = .ok (.getfield 7, 3) := by decide +kernel
theorem dX8_filedSet_17 : decode cX8_filedSet 17 = .ok (.iload_n 1, 1) := by decide +kernel
theorem dX8_filedSet_18 : decode cX8_filedSet 18 = .ok (.bipush 33, 2) := by decide +kernel
theorem dX8_filedSet_20 : decode cX8_filedSet 20 = .ok (.iadd, 1) := by decide +kernel
theorem dX8_filedSet_21 : decode cX8_filedSet 21 = .ok (.iload_n 3, 1) := by decide +kernel
theorem dX8_filedSet_22 : decode cX8_filedSet 22 = .ok (.iadd, 1) := by decide +kernel
theorem dX8_filedSet_23 : decode cX8_filedSet 23 = .ok (.iaload, 1) := by decide +kernel
theorem dX8_filedSet_24 : decode cX8_filedSet 24 = .ok (.iconst (-1), 1) := by decide +kernel
theorem dX8_filedSet_25 : decode cX8_filedSet 25 = .ok (.if_icmp .ne 7, 3) := by decide +kernel
theorem dX8_filedSet_28 : decode cX8_filedSet 28 = .ok (.iconst 0, 1) := by decide +kernel
theorem dX8_filedSet_29 : decode cX8_filedSet 29 = .ok (.goto 6, 3) := by decide +kernel
theorem dX8_filedSet_32 : decode cX8_filedSet 32 = .ok (.iconst 1, 1) := by decide +kernel
theorem dX8_filedSet_33 : decode cX8_filedSet 33 = .ok (.iload_n 3, 1) := by decide +kernel
theorem dX8_filedSet_34 : decode cX8_filedSet 34 = .ok (.ishl, 1) := by decide +kernel
theorem dX8_filedSet_35 : decode cX8_filedSet 35 = .ok (.ior, 1) := by decide +kernel
theorem dX8_filedSet_36 : decode cX8_filedSet 36 = .ok (.istore_n 2, 1) := by decide +kernel
theorem dX8_filedSet_37 : decode cX8_filedSet 37 = .ok (.iinc 3 1, 3) := by decide +kernel
theorem dX8_filedSet_40 : decode cX8_filedSet 40 = .ok (.goto (-36), 3) := by decide +kernel
theorem dX8_filedSet_43 : decode cX8_filedSet 43 = .ok (.iload_n 2, 1) := by decide +kernel
theorem dX8_filedSet_44 : decode cX8_filedSet 44 = .ok (.ireturn, 1) := by decide +kernel
theorem dX8_gets_0 : decode cX8_gets 0 = .ok (.iload_n 0, 1) := by decide +kernel
theorem dX8_gets_1 : decode cX8_gets 1 = .ok (.istore_n 3, 1) := by decide +kernel
theorem dX8_gets_2 : decode cX8_gets 2 = .ok (.iload_n 2, 1) := by decide +kernel
theorem dX8_gets_3 : decode cX8_gets 3 = .ok (.iconst 1, 1) := by decide +kernel
theorem dX8_gets_4 : decode cX8_gets 4 = .ok (.iadd, 1) := by decide +kernel
theorem dX8_gets_5 : decode cX8_gets 5 = .ok (.istore 4, 2) := by decide +kernel
theorem dX8_gets_7 : decode cX8_gets 7 = .ok (.iload 4, 2) := by decide +kernel
theorem dX8_gets_9 : decode cX8_gets 9 = .ok (.iload_n 1, 1) := by decide +kernel
theorem dX8_gets_10 : decode cX8_gets 10 = .ok (.if_icmp .ge 14, 3) := by decide +kernel
theorem dX8_gets_13 : decode cX8_gets 13 = .ok (.iload_n 3, 1) := by decide +kernel
theorem dX8_gets_14 : decode cX8_gets 14 = .ok (.bipush 10, 2) := by decide +kernel
theorem dX8_gets_16 : decode cX8_gets 16 = .ok (.idiv, 1) := by decide +kernel
theorem dX8_gets_17 : decode cX8_gets 17 = .ok (.istore_n 3, 1) := by decide +kernel
theorem dX8_gets_18 : decode cX8_gets 18 = .ok (.iinc 4 1, 3) := by decide +kernel
theorem dX8_gets_21 : decode cX8_gets 21 = .ok (.goto (-14), 3) := by decide +kernel
theorem dX8_gets_24 : decode cX8_gets 24 = .ok (.iload_n 3, 1) := by decide +kernel
theorem dX8_gets_25 : decode cX8_gets 25 = .ok (.bipush 10, 2) := by decide +kernel
theorem dX8_gets_27 : decode cX8_gets 27 = .ok (.irem, 1) := by decide +kernel
theorem dX8_gets_28 : decode cX8_gets 28 = .ok (.ireturn, 1) := by decide +kernel
theorem dX8_gives_0 : decode cX8_gives 0 = .ok (.aload_n 0, 1) := by decide +kernel
theorem dX8_gives_1 : decode cX8_gives 1 = .ok (.iconst 0, 1) := by decide +kernel
theorem dX8_gives_2 : decode cX8_gives 2 = .ok (.iconst 3, 1) := by decide +kernel
theorem dX8_gives_3 : decode cX8_gives 3 = .ok (.invokevirtual 67, 3) := by decide +kernel
theorem dX8_gives_6 : decode cX8_gives 6 = .ok (.bipush 117, 2) := by decide +kernel
theorem dX8_gives_8 : decode cX8_gives 8 = .ok (.istore 4, 2) := by decide +kernel
theorem dX8_gives_10 : decode cX8_gives 10 = .ok (.iconst 0, 1) := by decide +kernel
theorem dX8_gives_11 : decode cX8_gives 11 = .ok (.istore 5, 2) := by decide +kernel
theorem dX8_gives_13 : decode cX8_gives 13 = .ok (.iconst 0, 1) := by decide +kernel
theorem dX8_gives_14 : decode cX8_gives 14 = .ok (.istore 6, 2) := by decide +kernel
theorem dX8_gives_16 : decode cX8_gives 16 = .ok (.iconst 0, 1) := by decide +kernel
theorem dX8_gives_17 : decode cX8_gives 17 = .ok (.istore 7, 2) := by decide +kernel
theorem dX8_gives_19 : decode cX8_gives 19 = .ok (.iload 7, 2) := by decide +kernel
theorem dX8_gives_21 : decode cX8_gives 21 = .ok (.aload_n 0, 1) := by decide +kernel
theorem dX8_gives_22 : decode cX8_gives 22 = .ok (.getfield 64, 3) := by decide +kernel
theorem dX8_gives_25 : decode cX8_gives 25 = .ok (.if_icmp .ge 78, 3) := by decide +kernel
theorem dX8_gives_28 : decode cX8_gives 28 = .ok (.iload_n 2, 1) := by decide +kernel
theorem dX8_gives_29 : decode cX8_gives 29 = .ok (.iload 7, 2) := by decide +kernel
theorem dX8_gives_31 : decode cX8_gives 31 = .ok (.invokestatic 198, 3) := by decide +kernel
theorem dX8_gives_34 : decode cX8_gives 34 = .ok (.ifCond .eq 63, 3) := by decide +kernel
theorem dX8_gives_37 : decode cX8_gives 37 = .ok (.iload_n 1, 1) := by decide +kernel
theorem dX8_gives_38 : decode cX8_gives 38 = .ok (.iload_n 2, 1) := by decide +kernel
theorem dX8_gives_39 : decode cX8_gives 39 = .ok (.invokestatic 201, 3) := by decide +kernel
theorem dX8_gives_42 : decode cX8_gives 42 = .ok (.iload 5, 2) := by decide +kernel
theorem dX8_gives_44 : decode cX8_gives 44 = .ok (.invokestatic 204, 3) := by decide +kernel
theorem dX8_gives_47 : decode cX8_gives 47 = .ok (.istore 8, 2) := by decide +kernel
theorem dX8_gives_49 : decode cX8_gives 49 = .ok (.aload_n 0, 1) := by decide +kernel
theorem dX8_gives_50 : decode cX8_gives 50 = .ok (.getfield 7, 3) := by decide +kernel
theorem dX8_gives_53 : decode cX8_gives 53 = .ok (.iload 4, 2) := by decide +kernel
theorem dX8_gives_55 : decode cX8_gives 55 = .ok (.bipush 21, 2) := by decide +kernel
theorem dX8_gives_57 : decode cX8_gives 57 = .ok (.iadd, 1) := by decide +kernel
theorem dX8_gives_58 : decode cX8_gives 58 = .ok (.iload 7, 2) := by decide +kernel
theorem dX8_gives_60 : decode cX8_gives 60 = .ok (.iadd, 1) := by decide +kernel
theorem dX8_gives_61 : decode cX8_gives 61 = .ok (.dup2, 1) := by decide +kernel
theorem dX8_gives_62 : decode cX8_gives 62 = .ok (.iaload, 1) := by decide +kernel
theorem dX8_gives_63 : decode cX8_gives 63 = .ok (.iload 8, 2) := by decide +kernel
theorem dX8_gives_65 : decode cX8_gives 65 = .ok (.iadd, 1) := by decide +kernel
theorem dX8_gives_66 : decode cX8_gives 66 = .ok (.iastore, 1) := by decide +kernel
theorem dX8_gives_67 : decode cX8_gives 67 = .ok (.aload_n 0, 1) := by decide +kernel
theorem dX8_gives_68 : decode cX8_gives 68 = .ok (.getfield 7, 3) := by decide +kernel
theorem dX8_gives_71 : decode cX8_gives 71 = .ok (.iload 4, 2) := by decide +kernel
theorem dX8_gives_73 : decode cX8_gives 73 = .ok (.bipush 21, 2) := by decide +kernel
theorem dX8_gives_75 : decode cX8_gives 75 = .ok (.iadd, 1) := by decide +kernel
theorem dX8_gives_76 : decode cX8_gives 76 = .ok (.iload 7, 2) := by decide +kernel
theorem dX8_gives_78 : decode cX8_gives 78 = .ok (.iadd, 1) := by decide +kernel
theorem dX8_gives_79 : decode cX8_gives 79 = .ok (.iaload, 1) := by decide +kernel
theorem dX8_gives_80 : decode cX8_gives 80 = .ok (.bipush 9, 2) := by decide +kernel
theorem dX8_gives_82 : decode cX8_gives 82 = .ok (.if_icmp .le 5, 3) := by decide +kernel
theorem dX8_gives_85 : decode cX8_gives 85 = .ok (.iconst (-1), 1) := by decide +kernel
theorem dX8_gives_86 : decode cX8_gives 86 = .ok (.ireturn, 1) := by decide +kernel
theorem dX8_gives_87 : decode cX8_gives 87 = .ok (.iload 6, 2) := by decide +kernel
theorem dX8_gives_89 : decode cX8_gives 89 = .ok (.iload 8, 2) := by decide +kernel
theorem dX8_gives_91 : decode cX8_gives 91 = .ok (.iadd, 1) := by decide +kernel
theorem dX8_gives_92 : decode cX8_gives 92 = .ok (.istore 6, 2) := by decide +kernel
theorem dX8_gives_94 : decode cX8_gives 94 = .ok (.iinc 5 1, 3) := by decide +kernel
theorem dX8_gives_97 : decode cX8_gives 97 = .ok (.iinc 7 1, 3) := by decide +kernel
theorem dX8_gives_100 : decode cX8_gives 100 = .ok (.goto (-81), 3) := by decide +kernel
theorem dX8_gives_103 : decode cX8_gives 103 = .ok (.aload_n 0, 1) := by decide +kernel
theorem dX8_gives_104 : decode cX8_gives 104 = .ok (.iload_n 3, 1) := by decide +kernel
theorem dX8_gives_105 : decode cX8_gives 105 = .ok (.invokevirtual 192, 3) := by decide +kernel
theorem dX8_gives_108 : decode cX8_gives 108 = .ok (.iload_n 2, 1) := by decide +kernel
theorem dX8_gives_109 : decode cX8_gives 109 = .ok (.aload_n 0, 1) := by decide +kernel
theorem dX8_gives_110 : decode cX8_gives 110 = .ok (.iload 4, 2) := by decide +kernel
theorem dX8_gives_112 : decode cX8_gives 112 = .ok (.invokevirtual 207, 3) := by decide +kernel
theorem dX8_gives_115 : decode cX8_gives 115 = .ok (.iconst (-1), 1) := by decide +kernel
theorem dX8_gives_116 : decode cX8_gives 116 = .ok (.ixor, 1) := by decide +kernel
theorem dX8_gives_117 : decode cX8_gives 117 = .ok (.iand, 1) := by decide +kernel
theorem dX8_gives_118 : decode cX8_gives 118 = .ok (.ifCond .ne 8, 3) := by decide +kernel
theorem dX8_gives_121 : decode cX8_gives 121 = .ok (.iload 6, 2) := by decide +kernel
theorem dX8_gives_123 : decode cX8_gives 123 = .ok (.goto 4, 3) := by decide +kernel
theorem dX8_gives_126 : decode cX8_gives 126 = .ok (.iconst (-1), 1) := by decide +kernel
theorem dX8_gives_127 : decode cX8_gives 127 = .ok (.ireturn, 1) := by decide +kernel
theorem dX8_honey_0 : decode cX8_honey 0 = .ok (.iload_n 1, 1) := by decide +kernel
theorem dX8_honey_1 : decode cX8_honey 1 = .ok (.i2l, 1) := by decide +kernel
theorem dX8_honey_2 : decode cX8_honey 2 = .ok (.lconst 0, 1) := by decide +kernel
theorem dX8_honey_3 : decode cX8_honey 3 = .ok (.iconst 1, 1) := by decide +kernel
theorem dX8_honey_4 : decode cX8_honey 4 = .ok (.aload_n 0, 1) := by decide +kernel
theorem dX8_honey_5 : decode cX8_honey 5 = .ok (.getfield 64, 3) := by decide +kernel
theorem dX8_honey_8 : decode cX8_honey 8 = .ok (.ishl, 1) := by decide +kernel
theorem dX8_honey_9 : decode cX8_honey 9 = .ok (.iconst 1, 1) := by decide +kernel
theorem dX8_honey_10 : decode cX8_honey 10 = .ok (.isub, 1) := by decide +kernel
theorem dX8_honey_11 : decode cX8_honey 11 = .ok (.i2l, 1) := by decide +kernel
theorem dX8_honey_12 : decode cX8_honey 12 = .ok (.invokestatic 73, 3) := by decide +kernel
theorem dX8_honey_15 : decode cX8_honey 15 = .ok (.ifCond .ne 6, 3) := by decide +kernel
theorem dX8_honey_18 : decode cX8_honey 18 = .ok (.bipush (-2), 2) := by decide +kernel
theorem dX8_honey_20 : decode cX8_honey 20 = .ok (.ireturn, 1) := by decide +kernel
theorem dX8_honey_21 : decode cX8_honey 21 = .ok (.iload_n 2, 1) := by decide +kernel
theorem dX8_honey_22 : decode cX8_honey 22 = .ok (.i2l, 1) := by decide +kernel
theorem dX8_honey_23 : decode cX8_honey 23 = .ok (.lconst 1, 1) := by decide +kernel
theorem dX8_honey_24 : decode cX8_honey 24 = .ok (.ldc2_w 210, 3) := by decide +kernel
theorem dX8_honey_27 : decode cX8_honey 27 = .ok (.invokestatic 73, 3) := by decide +kernel
theorem dX8_honey_30 : decode cX8_honey 30 = .ok (.ifCond .eq 8, 3) := by decide +kernel
theorem dX8_honey_33 : decode cX8_honey 33 = .ok (.iload_n 3, 1) := by decide +kernel
theorem dX8_honey_34 : decode cX8_honey 34 = .ok (.iconst (-1), 1) := by decide +kernel
theorem dX8_honey_35 : decode cX8_honey 35 = .ok (.if_icmp .ge 6, 3) := by decide +kernel
theorem dX8_honey_38 : decode cX8_honey 38 = .ok (.bipush (-3), 2) := by decide +kernel
theorem dX8_honey_40 : decode cX8_honey 40 = .ok (.ireturn, 1) := by decide +kernel
theorem dX8_honey_41 : decode cX8_honey 41 = .ok (.iload_n 1, 1) := by decide +kernel
theorem dX8_honey_42 : decode cX8_honey 42 = .ok (.invokestatic 201, 3) := by decide +kernel
theorem dX8_honey_45 : decode cX8_honey 45 = .ok (.istore 4, 2) := by decide +kernel
theorem dX8_honey_47 : decode cX8_honey 47 = .ok (.iload 4, 2) := by decide +kernel
theorem dX8_honey_49 : decode cX8_honey 49 = .ok (.iconst 4, 1) := by decide +kernel
theorem dX8_honey_50 : decode cX8_honey 50 = .ok (.if_icmp .gt 13, 3) := by decide +kernel
theorem dX8_honey_53 : decode cX8_honey 53 = .ok (.iload_n 1, 1) := by decide +kernel
theorem dX8_honey_54 : decode cX8_honey 54 = .ok (.aload_n 0, 1) := by decide +kernel
theorem dX8_honey_55 : decode cX8_honey 55 = .ok (.iconst 0, 1) := by decide +kernel
theorem dX8_honey_56 : decode cX8_honey 56 = .ok (.invokevirtual 207, 3) := by decide +kernel
theorem dX8_honey_59 : decode cX8_honey 59 = .ok (.iand, 1) := by decide +kernel
theorem dX8_honey_60 : decode cX8_honey 60 = .ok (.ifCond .eq 6, 3) := by decide +kernel
theorem dX8_honey_63 : decode cX8_honey 63 = .ok (.bipush (-4), 2) := by decide +kernel
theorem dX8_honey_65 : decode cX8_honey 65 = .ok (.ireturn, 1) := by decide +kernel
theorem dX8_honey_66 : decode cX8_honey 66 = .ok (.iconst 1, 1) := by decide +kernel
theorem dX8_honey_67 : decode cX8_honey 67 = .ok (.istore 5, 2) := by decide +kernel
theorem dX8_honey_69 : decode cX8_honey 69 = .ok (.iconst 0, 1) := by decide +kernel
theorem dX8_honey_70 : decode cX8_honey 70 = .ok (.istore 6, 2) := by decide +kernel
theorem dX8_honey_72 : decode cX8_honey 72 = .ok (.iload 6, 2) := by decide +kernel
theorem dX8_honey_74 : decode cX8_honey 74 = .ok (.iload 4, 2) := by decide +kernel
theorem dX8_honey_76 : decode cX8_honey 76 = .ok (.if_icmp .ge 16, 3) := by decide +kernel
theorem dX8_honey_79 : decode cX8_honey 79 = .ok (.iload 5, 2) := by decide +kernel
theorem dX8_honey_81 : decode cX8_honey 81 = .ok (.bipush 10, 2) := by decide +kernel
theorem dX8_honey_83 : decode cX8_honey 83 = .ok (.imul, 1) := by decide +kernel
theorem dX8_honey_84 : decode cX8_honey 84 = .ok (.istore 5, 2) := by decide +kernel
theorem dX8_honey_86 : decode cX8_honey 86 = .ok (.iinc 6 1, 3) := by decide +kernel
theorem dX8_honey_89 : decode cX8_honey 89 = .ok (.goto (-17), 3) := by decide +kernel
theorem dX8_honey_92 : decode cX8_honey 92 = .ok (.iconst (-1), 1) := by decide +kernel
theorem dX8_honey_93 : decode cX8_honey 93 = .ok (.istore 6, 2) := by decide +kernel
theorem dX8_honey_95 : decode cX8_honey 95 = .ok (.bipush 99, 2) := by decide +kernel
theorem dX8_honey_97 : decode cX8_honey 97 = .ok (.istore 7, 2) := by decide +kernel
theorem dX8_honey_99 : decode cX8_honey 99 = .ok (.iconst 0, 1) := by decide +kernel
theorem dX8_honey_100 : decode cX8_honey 100 = .ok (.istore 8, 2) := by decide +kernel
theorem dX8_honey_102 : decode cX8_honey 102 = .ok (.iload 8, 2) := by decide +kernel
theorem dX8_honey_104 : decode cX8_honey 104 = .ok (.iload 5, 2) := by decide +kernel
theorem dX8_honey_106 : decode cX8_honey 106 = .ok (.if_icmp .ge 40, 3) := by decide +kernel
theorem dX8_honey_109 : decode cX8_honey 109 = .ok (.aload_n 0, 1) := by decide +kernel
theorem dX8_honey_110 : decode cX8_honey 110 = .ok (.iload 8, 2) := by decide +kernel
theorem dX8_honey_112 : decode cX8_honey 112 = .ok (.iload_n 1, 1) := by decide +kernel
theorem dX8_honey_113 : decode cX8_honey 113 = .ok (.iload_n 2, 1) := by decide +kernel
theorem dX8_honey_114 : decode cX8_honey 114 = .ok (.invokevirtual 212, 3) := by decide +kernel
theorem dX8_honey_117 : decode cX8_honey 117 = .ok (.istore 9, 2) := by decide +kernel
theorem dX8_honey_119 : decode cX8_honey 119 = .ok (.iload 9, 2) := by decide +kernel
theorem dX8_honey_121 : decode cX8_honey 121 = .ok (.iconst (-1), 1) := by decide +kernel
theorem dX8_honey_122 : decode cX8_honey 122 = .ok (.if_icmp .eq 18, 3) := by decide +kernel
theorem dX8_honey_125 : decode cX8_honey 125 = .ok (.iload 9, 2) := by decide +kernel
theorem dX8_honey_127 : decode cX8_honey 127 = .ok (.iload 7, 2) := by decide +kernel
theorem dX8_honey_129 : decode cX8_honey 129 = .ok (.if_icmp .ge 11, 3) := by decide +kernel
theorem dX8_honey_132 : decode cX8_honey 132 = .ok (.iload 9, 2) := by decide +kernel
theorem dX8_honey_134 : decode cX8_honey 134 = .ok (.istore 7, 2) := by decide +kernel
theorem dX8_honey_136 : decode cX8_honey 136 = .ok (.iload 8, 2) := by decide +kernel
theorem dX8_honey_138 : decode cX8_honey 138 = .ok (.istore 6, 2) := by decide +kernel
theorem dX8_honey_140 : decode cX8_honey 140 = .ok (.iinc 8 1, 3) := by decide +kernel
theorem dX8_honey_143 : decode cX8_honey 143 = .ok (.goto (-41), 3) := by decide +kernel
theorem dX8_honey_146 : decode cX8_honey 146 = .ok (.iload 6, 2) := by decide +kernel
theorem dX8_honey_148 : decode cX8_honey 148 = .ok (.iconst (-1), 1) := by decide +kernel
theorem dX8_honey_149 : decode cX8_honey 149 = .ok (.if_icmp .ne 7, 3) := by decide +kernel
theorem dX8_honey_152 : decode cX8_honey 152 = .ok (.iconst (-1), 1) := by decide +kernel
theorem dX8_honey_153 : decode cX8_honey 153 = .ok (.goto 31, 3) := by decide +kernel
theorem dX8_honey_156 : decode cX8_honey 156 = .ok (.iload_n 3, 1) := by decide +kernel
theorem dX8_honey_157 : decode cX8_honey 157 = .ok (.iconst (-1), 1) := by decide +kernel
theorem dX8_honey_158 : decode cX8_honey 158 = .ok (.if_icmp .ne 8, 3) := by decide +kernel
theorem dX8_honey_161 : decode cX8_honey 161 = .ok (.iload 7, 2) := by decide +kernel
theorem dX8_honey_163 : decode cX8_honey 163 = .ok (.goto 21, 3) := by decide +kernel
theorem dX8_honey_166 : decode cX8_honey 166 = .ok (.iload_n 3, 1) := by decide +kernel
theorem dX8_honey_167 : decode cX8_honey 167 = .ok (.iload 4, 2) := by decide +kernel
theorem dX8_honey_169 : decode cX8_honey 169 = .ok (.if_icmp .ge 14, 3) := by decide +kernel
theorem dX8_honey_172 : decode cX8_honey 172 = .ok (.iload 6, 2) := by decide +kernel
theorem dX8_honey_174 : decode cX8_honey 174 = .ok (.iload 4, 2) := by decide +kernel
theorem dX8_honey_176 : decode cX8_honey 176 = .ok (.iload_n 3, 1) := by decide +kernel
theorem dX8_honey_177 : decode cX8_honey 177 = .ok (.invokestatic 204, 3) := by decide +kernel
theorem dX8_honey_180 : decode cX8_honey 180 = .ok (.goto 4, 3) := by decide +kernel
theorem dX8_honey_183 : decode cX8_honey 183 = .ok (.iconst (-1), 1) := by decide +kernel
theorem dX8_honey_184 : decode cX8_honey 184 = .ok (.ireturn, 1) := by decide +kernel
theorem dX8_smear_0 : decode cX8_smear 0 = .ok (.aload_n 0, 1) := by decide +kernel
theorem dX8_smear_1 : decode cX8_smear 1 = .ok (.iload_n 1, 1) := by decide +kernel
theorem dX8_smear_2 : decode cX8_smear 2 = .ok (.invokevirtual 160, 3) := by decide +kernel
theorem dX8_smear_5 : decode cX8_smear 5 = .ok (.ifCond .ne 6, 3) := by decide +kernel
theorem dX8_smear_8 : decode cX8_smear 8 = .ok (.bipush (-2), 2) := by decide +kernel
theorem dX8_smear_10 : decode cX8_smear 10 = .ok (.ireturn, 1) := by decide +kernel
theorem dX8_smear_11 : decode cX8_smear 11 = .ok (.iload_n 2, 1) := by decide +kernel
theorem dX8_smear_12 : decode cX8_smear 12 = .ok (.i2l, 1) := by decide +kernel
theorem dX8_smear_13 : decode cX8_smear 13 = .ok (.lconst 1, 1) := by decide +kernel
theorem dX8_smear_14 : decode cX8_smear 14 = .ok (.ldc2_w 183, 3) := by decide +kernel
theorem dX8_smear_17 : decode cX8_smear 17 = .ok (.invokestatic 73, 3) := by decide +kernel
theorem dX8_smear_20 : decode cX8_smear 20 = .ok (.ifCond .eq 15, 3) := by decide +kernel
theorem dX8_smear_23 : decode cX8_smear 23 = .ok (.iload_n 3, 1) := by decide +kernel
theorem dX8_smear_24 : decode cX8_smear 24 = .ok (.i2l, 1) := by decide +kernel
theorem dX8_smear_25 : decode cX8_smear 25 = .ok (.lconst 0, 1) := by decide +kernel
theorem dX8_smear_26 : decode cX8_smear 26 = .ok (.ldc2_w 190, 3) := by decide +kernel
theorem dX8_smear_29 : decode cX8_smear 29 = .ok (.invokestatic 73, 3) := by decide +kernel
theorem dX8_smear_32 : decode cX8_smear 32 = .ok (.ifCond .ne 6, 3) := by decide +kernel
theorem dX8_smear_35 : decode cX8_smear 35 = .ok (.bipush (-3), 2) := by decide +kernel
theorem dX8_smear_37 : decode cX8_smear 37 = .ok (.ireturn, 1) := by decide +kernel
theorem dX8_smear_38 : decode cX8_smear 38 = .ok (.aload_n 0, 1) := by decide +kernel
theorem dX8_smear_39 : decode cX8_smear 39 = .ok (.getfield 7, 3) := by decide +kernel
theorem dX8_smear_42 : decode cX8_smear 42 = .ok (.bipush 33, 2) := by decide +kernel
theorem dX8_smear_44 : decode cX8_smear 44 = .ok (.iload_n 1, 1) := by decide +kernel
theorem dX8_smear_45 : decode cX8_smear 45 = .ok (.iadd, 1) := by decide +kernel
theorem dX8_smear_46 : decode cX8_smear 46 = .ok (.iaload, 1) := by decide +kernel
theorem dX8_smear_47 : decode cX8_smear 47 = .ok (.iconst (-1), 1) := by decide +kernel
theorem dX8_smear_48 : decode cX8_smear 48 = .ok (.if_icmp .eq 6, 3) := by decide +kernel
theorem dX8_smear_51 : decode cX8_smear 51 = .ok (.bipush (-4), 2) := by decide +kernel
theorem dX8_smear_53 : decode cX8_smear 53 = .ok (.ireturn, 1) := by decide +kernel
theorem dX8_smear_54 : decode cX8_smear 54 = .ok (.iconst (-1), 1) := by decide +kernel
theorem dX8_smear_55 : decode cX8_smear 55 = .ok (.istore 4, 2) := by decide +kernel
theorem dX8_smear_57 : decode cX8_smear 57 = .ok (.ldc 215, 2) := by decide +kernel
theorem dX8_smear_59 : decode cX8_smear 59 = .ok (.istore 5, 2) := by decide +kernel
theorem dX8_smear_61 : decode cX8_smear 61 = .ok (.iconst 0, 1) := by decide +kernel
theorem dX8_smear_62 : decode cX8_smear 62 = .ok (.istore 6, 2) := by decide +kernel
theorem dX8_smear_64 : decode cX8_smear 64 = .ok (.iload 6, 2) := by decide +kernel
theorem dX8_smear_66 : decode cX8_smear 66 = .ok (.bipush 100, 2) := by decide +kernel
theorem dX8_smear_68 : decode cX8_smear 68 = .ok (.aload_n 0, 1) := by decide +kernel
theorem dX8_smear_69 : decode cX8_smear 69 = .ok (.getfield 61, 3) := by decide +kernel
theorem dX8_smear_72 : decode cX8_smear 72 = .ok (.imul, 1) := by decide +kernel
theorem dX8_smear_73 : decode cX8_smear 73 = .ok (.if_icmp .ge 62, 3) := by decide +kernel
theorem dX8_smear_76 : decode cX8_smear 76 = .ok (.aload_n 0, 1) := by decide +kernel
theorem dX8_smear_77 : decode cX8_smear 77 = .ok (.iconst 0, 1) := by decide +kernel
theorem dX8_smear_78 : decode cX8_smear 78 = .ok (.iconst 3, 1) := by decide +kernel
theorem dX8_smear_79 : decode cX8_smear 79 = .ok (.invokevirtual 67, 3) := by decide +kernel
theorem dX8_smear_82 : decode cX8_smear 82 = .ok (.aload_n 0, 1) := by decide +kernel
theorem dX8_smear_83 : decode cX8_smear 83 = .ok (.getfield 7, 3) := by decide +kernel
theorem dX8_smear_86 : decode cX8_smear 86 = .ok (.bipush 120, 2) := by decide +kernel
theorem dX8_smear_88 : decode cX8_smear 88 = .ok (.iload 6, 2) := by decide +kernel
theorem dX8_smear_90 : decode cX8_smear 90 = .ok (.bipush 100, 2) := by decide +kernel
theorem dX8_smear_92 : decode cX8_smear 92 = .ok (.idiv, 1) := by decide +kernel
theorem dX8_smear_93 : decode cX8_smear 93 = .ok (.iadd, 1) := by decide +kernel
theorem dX8_smear_94 : decode cX8_smear 94 = .ok (.iload 6, 2) := by decide +kernel
theorem dX8_smear_96 : decode cX8_smear 96 = .ok (.bipush 100, 2) := by decide +kernel
theorem dX8_smear_98 : decode cX8_smear 98 = .ok (.irem, 1) := by decide +kernel
theorem dX8_smear_99 : decode cX8_smear 99 = .ok (.iastore, 1) := by decide +kernel
theorem dX8_smear_100 : decode cX8_smear 100 = .ok (.aload_n 0, 1) := by decide +kernel
theorem dX8_smear_101 : decode cX8_smear 101 = .ok (.iload_n 1, 1) := by decide +kernel
theorem dX8_smear_102 : decode cX8_smear 102 = .ok (.iload_n 2, 1) := by decide +kernel
theorem dX8_smear_103 : decode cX8_smear 103 = .ok (.invokevirtual 195, 3) := by decide +kernel
theorem dX8_smear_106 : decode cX8_smear 106 = .ok (.istore 7, 2) := by decide +kernel
theorem dX8_smear_108 : decode cX8_smear 108 = .ok (.iload 7, 2) := by decide +kernel
theorem dX8_smear_110 : decode cX8_smear 110 = .ok (.iconst (-1), 1) := by decide +kernel
theorem dX8_smear_111 : decode cX8_smear 111 = .ok (.if_icmp .eq 18, 3) := by decide +kernel
theorem dX8_smear_114 : decode cX8_smear 114 = .ok (.iload 7, 2) := by decide +kernel
theorem dX8_smear_116 : decode cX8_smear 116 = .ok (.iload 5, 2) := by decide +kernel
theorem dX8_smear_118 : decode cX8_smear 118 = .ok (.if_icmp .ge 11, 3) := by decide +kernel
theorem dX8_smear_121 : decode cX8_smear 121 = .ok (.iload 7, 2) := by decide +kernel
theorem dX8_smear_123 : decode cX8_smear 123 = .ok (.istore 5, 2) := by decide +kernel
theorem dX8_smear_125 : decode cX8_smear 125 = .ok (.iload 6, 2) := by decide +kernel
theorem dX8_smear_127 : decode cX8_smear 127 = .ok (.istore 4, 2) := by decide +kernel
theorem dX8_smear_129 : decode cX8_smear 129 = .ok (.iinc 6 1, 3) := by decide +kernel
theorem dX8_smear_132 : decode cX8_smear 132 = .ok (.goto (-68), 3) := by decide +kernel
theorem dX8_smear_135 : decode cX8_smear 135 = .ok (.iload 4, 2) := by decide +kernel
theorem dX8_smear_137 : decode cX8_smear 137 = .ok (.iconst (-1), 1) := by decide +kernel
theorem dX8_smear_138 : decode cX8_smear 138 = .ok (.if_icmp .ne 7, 3) := by decide +kernel
theorem dX8_smear_141 : decode cX8_smear 141 = .ok (.iconst (-1), 1) := by decide +kernel
theorem dX8_smear_142 : decode cX8_smear 142 = .ok (.goto 30, 3) := by decide +kernel
theorem dX8_smear_145 : decode cX8_smear 145 = .ok (.iload_n 3, 1) := by decide +kernel
theorem dX8_smear_146 : decode cX8_smear 146 = .ok (.ifCond .ne 8, 3) := by decide +kernel
theorem dX8_smear_149 : decode cX8_smear 149 = .ok (.iload 5, 2) := by decide +kernel
theorem dX8_smear_151 : decode cX8_smear 151 = .ok (.goto 21, 3) := by decide +kernel
theorem dX8_smear_154 : decode cX8_smear 154 = .ok (.iload_n 3, 1) := by decide +kernel
theorem dX8_smear_155 : decode cX8_smear 155 = .ok (.iconst 1, 1) := by decide +kernel
theorem dX8_smear_156 : decode cX8_smear 156 = .ok (.if_icmp .ne 11, 3) := by decide +kernel
theorem dX8_smear_159 : decode cX8_smear 159 = .ok (.iload 4, 2) := by decide +kernel
theorem dX8_smear_161 : decode cX8_smear 161 = .ok (.bipush 100, 2) := by decide +kernel
theorem dX8_smear_163 : decode cX8_smear 163 = .ok (.idiv, 1) := by decide +kernel
theorem dX8_smear_164 : decode cX8_smear 164 = .ok (.goto 8, 3) := by decide +kernel
theorem dX8_smear_167 : decode cX8_smear 167 = .ok (.iload 4, 2) := by decide +kernel
theorem dX8_smear_169 : decode cX8_smear 169 = .ok (.bipush 100, 2) := by decide +kernel
theorem dX8_smear_171 : decode cX8_smear 171 = .ok (.irem, 1) := by decide +kernel
theorem dX8_smear_172 : decode cX8_smear 172 = .ok (.ireturn, 1) := by decide +kernel
theorem dX8_quiet_0 : decode cX8_quiet 0 = .ok (.aload_n 0, 1) := by decide +kernel
theorem dX8_quiet_1 : decode cX8_quiet 1 = .ok (.iload_n 1, 1) := by decide +kernel
theorem dX8_quiet_2 : decode cX8_quiet 2 = .ok (.invokevirtual 151, 3) := by decide +kernel
theorem dX8_quiet_5 : decode cX8_quiet 5 = .ok (.ifCond .eq 11, 3) := by decide +kernel
theorem dX8_quiet_8 : decode cX8_quiet 8 = .ok (.aload_n 0, 1) := by decide +kernel
theorem dX8_quiet_9 : decode cX8_quiet 9 = .ok (.iload_n 2, 1) := by decide +kernel
theorem dX8_quiet_10 : decode cX8_quiet 10 = .ok (.invokevirtual 151, 3) := by decide +kernel
theorem dX8_quiet_13 : decode cX8_quiet 13 = .ok (.ifCond .ne 6, 3) := by decide +kernel
theorem dX8_quiet_16 : decode cX8_quiet 16 = .ok (.bipush (-2), 2) := by decide +kernel
theorem dX8_quiet_18 : decode cX8_quiet 18 = .ok (.ireturn, 1) := by decide +kernel
theorem dX8_quiet_19 : decode cX8_quiet 19 = .ok (.iconst 0, 1) := by decide +kernel
theorem dX8_quiet_20 : decode cX8_quiet 20 = .ok (.istore_n 3, 1) := by decide +kernel
theorem dX8_quiet_21 : decode cX8_quiet 21 = .ok (.iload_n 3, 1) := by decide +kernel
theorem dX8_quiet_22 : decode cX8_quiet 22 = .ok (.bipush 8, 2) := by decide +kernel
theorem dX8_quiet_24 : decode cX8_quiet 24 = .ok (.if_icmp .ge 26, 3) := by decide +kernel
theorem dX8_quiet_27 : decode cX8_quiet 27 = .ok (.aload_n 0, 1) := by decide +kernel
theorem dX8_quiet_28 : decode cX8_quiet 28 = .ok (.getfield 45, 3) := by decide +kernel
theorem dX8_quiet_31 : decode cX8_quiet 31 = .ok (.iload_n 3, 1) := by decide +kernel
theorem dX8_quiet_32 : decode cX8_quiet 32 = .ok (.iload_n 3, 1) := by decide +kernel
theorem dX8_quiet_33 : decode cX8_quiet 33 = .ok (.iload_n 1, 1) := by decide +kernel
theorem dX8_quiet_34 : decode cX8_quiet 34 = .ok (.if_icmp .ne 7, 3) := by decide +kernel
theorem dX8_quiet_37 : decode cX8_quiet 37 = .ok (.iconst 0, 1) := by decide +kernel
theorem dX8_quiet_38 : decode cX8_quiet 38 = .ok (.goto 5, 3) := by decide +kernel
theorem dX8_quiet_41 : decode cX8_quiet 41 = .ok (.bipush 99, 2) := by decide +kernel
theorem dX8_quiet_43 : decode cX8_quiet 43 = .ok (.iastore, 1) := by decide +kernel
theorem dX8_quiet_44 : decode cX8_quiet 44 = .ok (.iinc 3 1, 3) := by decide +kernel
theorem dX8_quiet_47 : decode cX8_quiet 47 = .ok (.goto (-26), 3) := by decide +kernel
theorem dX8_quiet_50 : decode cX8_quiet 50 = .ok (.iconst 0, 1) := by decide +kernel
theorem dX8_quiet_51 : decode cX8_quiet 51 = .ok (.istore_n 3, 1) := by decide +kernel
theorem dX8_quiet_52 : decode cX8_quiet 52 = .ok (.iload_n 3, 1) := by decide +kernel
theorem dX8_quiet_53 : decode cX8_quiet 53 = .ok (.aload_n 0, 1) := by decide +kernel
theorem dX8_quiet_54 : decode cX8_quiet 54 = .ok (.getfield 23, 3) := by decide +kernel
theorem dX8_quiet_57 : decode cX8_quiet 57 = .ok (.if_icmp .ge 179, 3) := by decide +kernel
theorem dX8_quiet_60 : decode cX8_quiet 60 = .ok (.iconst 0, 1) := by decide +kernel
theorem dX8_quiet_61 : decode cX8_quiet 61 = .ok (.istore 4, 2) := by decide +kernel
theorem dX8_quiet_63 : decode cX8_quiet 63 = .ok (.iload 4, 2) := by decide +kernel
theorem dX8_quiet_65 : decode cX8_quiet 65 = .ok (.aload_n 0, 1) := by decide +kernel
theorem dX8_quiet_66 : decode cX8_quiet 66 = .ok (.getfield 61, 3) := by decide +kernel
theorem dX8_quiet_69 : decode cX8_quiet 69 = .ok (.if_icmp .ge 161, 3) := by decide +kernel
theorem dX8_quiet_72 : decode cX8_quiet 72 = .ok (.aload_n 0, 1) := by decide +kernel
theorem dX8_quiet_73 : decode cX8_quiet 73 = .ok (.getfield 7, 3) := by decide +kernel
theorem dX8_quiet_76 : decode cX8_quiet 76 = .ok (.iconst 3, 1) := by decide +kernel
theorem dX8_quiet_77 : decode cX8_quiet 77 = .ok (.iload 4, 2) := by decide +kernel
theorem dX8_quiet_79 : decode cX8_quiet 79 = .ok (.iadd, 1) := by decide +kernel
theorem dX8_quiet_80 : decode cX8_quiet 80 = .ok (.iaload, 1) := by decide +kernel
theorem dX8_quiet_81 : decode cX8_quiet 81 = .ok (.ifCond .ne 143, 3) := by decide +kernel
theorem dX8_quiet_84 : decode cX8_quiet 84 = .ok (.aload_n 0, 1) := by decide +kernel
theorem dX8_quiet_85 : decode cX8_quiet 85 = .ok (.getfield 45, 3) := by decide +kernel
theorem dX8_quiet_88 : decode cX8_quiet 88 = .ok (.aload_n 0, 1) := by decide +kernel
theorem dX8_quiet_89 : decode cX8_quiet 89 = .ok (.getfield 33, 3) := by decide +kernel
theorem dX8_quiet_92 : decode cX8_quiet 92 = .ok (.iload 4, 2) := by decide +kernel
theorem dX8_quiet_94 : decode cX8_quiet 94 = .ok (.iaload, 1) := by decide +kernel
theorem dX8_quiet_95 : decode cX8_quiet 95 = .ok (.aload_n 0, 1) := by decide +kernel
theorem dX8_quiet_96 : decode cX8_quiet 96 = .ok (.getfield 45, 3) := by decide +kernel
theorem dX8_quiet_99 : decode cX8_quiet 99 = .ok (.aload_n 0, 1) := by decide +kernel
theorem dX8_quiet_100 : decode cX8_quiet 100 = .ok (.getfield 30, 3) := by decide +kernel
theorem dX8_quiet_103 : decode cX8_quiet 103 = .ok (.iload 4, 2) := by decide +kernel
theorem dX8_quiet_105 : decode cX8_quiet 105 = .ok (.iaload, 1) := by decide +kernel
theorem dX8_quiet_106 : decode cX8_quiet 106 = .ok (.iaload, 1) := by decide +kernel
theorem dX8_quiet_107 : decode cX8_quiet 107 = .ok (.iconst 1, 1) := by decide +kernel
theorem dX8_quiet_108 : decode cX8_quiet 108 = .ok (.iadd, 1) := by decide +kernel
theorem dX8_quiet_109 : decode cX8_quiet 109 = .ok (.aload_n 0, 1) := by decide +kernel
theorem dX8_quiet_110 : decode cX8_quiet 110 = .ok (.getfield 45, 3) := by decide +kernel
theorem dX8_quiet_113 : decode cX8_quiet 113 = .ok (.aload_n 0, 1) := by decide +kernel
theorem dX8_quiet_114 : decode cX8_quiet 114 = .ok (.getfield 33, 3) := by decide +kernel
theorem dX8_quiet_117 : decode cX8_quiet 117 = .ok (.iload 4, 2) := by decide +kernel
theorem dX8_quiet_119 : decode cX8_quiet 119 = .ok (.iaload, 1) := by decide +kernel
theorem dX8_quiet_120 : decode cX8_quiet 120 = .ok (.iaload, 1) := by decide +kernel
theorem dX8_quiet_121 : decode cX8_quiet 121 = .ok (.if_icmp .ge 20, 3) := by decide +kernel
theorem dX8_quiet_124 : decode cX8_quiet 124 = .ok (.aload_n 0, 1) := by decide +kernel
theorem dX8_quiet_125 : decode cX8_quiet 125 = .ok (.getfield 45, 3) := by decide +kernel
theorem dX8_quiet_128 : decode cX8_quiet 128 = .ok (.aload_n 0, 1) := by decide +kernel
theorem dX8_quiet_129 : decode cX8_quiet 129 = .ok (.getfield 30, 3) := by decide +kernel
theorem dX8_quiet_132 : decode cX8_quiet 132 = .ok (.iload 4, 2) := by decide +kernel
theorem dX8_quiet_134 : decode cX8_quiet 134 = .ok (.iaload, 1) := by decide +kernel
theorem dX8_quiet_135 : decode cX8_quiet 135 = .ok (.iaload, 1) := by decide +kernel
theorem dX8_quiet_136 : decode cX8_quiet 136 = .ok (.iconst 1, 1) := by decide +kernel
theorem dX8_quiet_137 : decode cX8_quiet 137 = .ok (.iadd, 1) := by decide +kernel
theorem dX8_quiet_138 : decode cX8_quiet 138 = .ok (.goto 15, 3) := by decide +kernel
theorem dX8_quiet_141 : decode cX8_quiet 141 = .ok (.aload_n 0, 1) := by decide +kernel
theorem dX8_quiet_142 : decode cX8_quiet 142 = .ok (.getfield 45, 3) := by decide +kernel
theorem dX8_quiet_145 : decode cX8_quiet 145 = .ok (.aload_n 0, 1) := by decide +kernel
theorem dX8_quiet_146 : decode cX8_quiet 146 = .ok (.getfield 33, 3) := by decide +kernel
theorem dX8_quiet_149 : decode cX8_quiet 149 = .ok (.iload 4, 2) := by decide +kernel
theorem dX8_quiet_151 : decode cX8_quiet 151 = .ok (.iaload, 1) := by decide +kernel
theorem dX8_quiet_152 : decode cX8_quiet 152 = .ok (.iaload, 1) := by decide +kernel
theorem dX8_quiet_153 : decode cX8_quiet 153 = .ok (.iastore, 1) := by decide +kernel
theorem dX8_quiet_154 : decode cX8_quiet 154 = .ok (.aload_n 0, 1) := by decide +kernel
theorem dX8_quiet_155 : decode cX8_quiet 155 = .ok (.getfield 45, 3) := by decide +kernel
theorem dX8_quiet_158 : decode cX8_quiet 158 = .ok (.aload_n 0, 1) := by decide +kernel
theorem dX8_quiet_159 : decode cX8_quiet 159 = .ok (.getfield 30, 3) := by decide +kernel
theorem dX8_quiet_162 : decode cX8_quiet 162 = .ok (.iload 4, 2) := by decide +kernel
theorem dX8_quiet_164 : decode cX8_quiet 164 = .ok (.iaload, 1) := by decide +kernel
theorem dX8_quiet_165 : decode cX8_quiet 165 = .ok (.aload_n 0, 1) := by decide +kernel
theorem dX8_quiet_166 : decode cX8_quiet 166 = .ok (.getfield 45, 3) := by decide +kernel
theorem dX8_quiet_169 : decode cX8_quiet 169 = .ok (.aload_n 0, 1) := by decide +kernel
theorem dX8_quiet_170 : decode cX8_quiet 170 = .ok (.getfield 33, 3) := by decide +kernel
theorem dX8_quiet_173 : decode cX8_quiet 173 = .ok (.iload 4, 2) := by decide +kernel
theorem dX8_quiet_175 : decode cX8_quiet 175 = .ok (.iaload, 1) := by decide +kernel
theorem dX8_quiet_176 : decode cX8_quiet 176 = .ok (.iaload, 1) := by decide +kernel
theorem dX8_quiet_177 : decode cX8_quiet 177 = .ok (.iconst 1, 1) := by decide +kernel
theorem dX8_quiet_178 : decode cX8_quiet 178 = .ok (.iadd, 1) := by decide +kernel
theorem dX8_quiet_179 : decode cX8_quiet 179 = .ok (.aload_n 0, 1) := by decide +kernel
theorem dX8_quiet_180 : decode cX8_quiet 180 = .ok (.getfield 45, 3) := by decide +kernel
theorem dX8_quiet_183 : decode cX8_quiet 183 = .ok (.aload_n 0, 1) := by decide +kernel
theorem dX8_quiet_184 : decode cX8_quiet 184 = .ok (.getfield 30, 3) := by decide +kernel
theorem dX8_quiet_187 : decode cX8_quiet 187 = .ok (.iload 4, 2) := by decide +kernel
theorem dX8_quiet_189 : decode cX8_quiet 189 = .ok (.iaload, 1) := by decide +kernel
theorem dX8_quiet_190 : decode cX8_quiet 190 = .ok (.iaload, 1) := by decide +kernel
theorem dX8_quiet_191 : decode cX8_quiet 191 = .ok (.if_icmp .ge 20, 3) := by decide +kernel
theorem dX8_quiet_194 : decode cX8_quiet 194 = .ok (.aload_n 0, 1) := by decide +kernel
theorem dX8_quiet_195 : decode cX8_quiet 195 = .ok (.getfield 45, 3) := by decide +kernel
theorem dX8_quiet_198 : decode cX8_quiet 198 = .ok (.aload_n 0, 1) := by decide +kernel
theorem dX8_quiet_199 : decode cX8_quiet 199 = .ok (.getfield 33, 3) := by decide +kernel
theorem dX8_quiet_202 : decode cX8_quiet 202 = .ok (.iload 4, 2) := by decide +kernel
theorem dX8_quiet_204 : decode cX8_quiet 204 = .ok (.iaload, 1) := by decide +kernel
theorem dX8_quiet_205 : decode cX8_quiet 205 = .ok (.iaload, 1) := by decide +kernel
theorem dX8_quiet_206 : decode cX8_quiet 206 = .ok (.iconst 1, 1) := by decide +kernel
theorem dX8_quiet_207 : decode cX8_quiet 207 = .ok (.iadd, 1) := by decide +kernel
theorem dX8_quiet_208 : decode cX8_quiet 208 = .ok (.goto 15, 3) := by decide +kernel
theorem dX8_quiet_211 : decode cX8_quiet 211 = .ok (.aload_n 0, 1) := by decide +kernel
theorem dX8_quiet_212 : decode cX8_quiet 212 = .ok (.getfield 45, 3) := by decide +kernel
theorem dX8_quiet_215 : decode cX8_quiet 215 = .ok (.aload_n 0, 1) := by decide +kernel
theorem dX8_quiet_216 : decode cX8_quiet 216 = .ok (.getfield 30, 3) := by decide +kernel
theorem dX8_quiet_219 : decode cX8_quiet 219 = .ok (.iload 4, 2) := by decide +kernel
theorem dX8_quiet_221 : decode cX8_quiet 221 = .ok (.iaload, 1) := by decide +kernel
theorem dX8_quiet_222 : decode cX8_quiet 222 = .ok (.iaload, 1) := by decide +kernel
theorem dX8_quiet_223 : decode cX8_quiet 223 = .ok (.iastore, 1) := by decide +kernel
theorem dX8_quiet_224 : decode cX8_quiet 224 = .ok (.iinc 4 1, 3) := by decide +kernel
theorem dX8_quiet_227 : decode cX8_quiet 227 = .ok (.goto (-164), 3) := by decide +kernel
theorem dX8_quiet_230 : decode cX8_quiet 230 = .ok (.iinc 3 1, 3) := by decide +kernel
theorem dX8_quiet_233 : decode cX8_quiet 233 = .ok (.goto (-181), 3) := by decide +kernel
theorem dX8_quiet_236 : decode cX8_quiet 236 = .ok (.aload_n 0, 1) := by decide +kernel
theorem dX8_quiet_237 : decode cX8_quiet 237 = .ok (.getfield 45, 3) := by decide +kernel
theorem dX8_quiet_240 : decode cX8_quiet 240 = .ok (.iload_n 2, 1) := by decide +kernel
theorem dX8_quiet_241 : decode cX8_quiet 241 = .ok (.iaload, 1) := by decide +kernel
theorem dX8_quiet_242 : decode cX8_quiet 242 = .ok (.bipush 99, 2) := by decide +kernel
theorem dX8_quiet_244 : decode cX8_quiet 244 = .ok (.if_icmp .ne 7, 3) := by decide +kernel
theorem dX8_quiet_247 : decode cX8_quiet 247 = .ok (.iconst (-1), 1) := by decide +kernel
theorem dX8_quiet_248 : decode cX8_quiet 248 = .ok (.goto 9, 3) := by decide +kernel
theorem dX8_quiet_251 : decode cX8_quiet 251 = .ok (.aload_n 0, 1) := by decide +kernel
theorem dX8_quiet_252 : decode cX8_quiet 252 = .ok (.getfield 45, 3) := by decide +kernel
theorem dX8_quiet_255 : decode cX8_quiet 255 = .ok (.iload_n 2, 1) := by decide +kernel
theorem dX8_quiet_256 : decode cX8_quiet 256 = .ok (.iaload, 1) := by decide +kernel
theorem dX8_quiet_257 : decode cX8_quiet 257 = .ok (.ireturn, 1) := by decide +kernel
theorem dX8_filedBy_0 : decode cX8_filedBy 0 = .ok (.aload_n 0, 1) := by decide +kernel
theorem dX8_filedBy_1 : decode cX8_filedBy 1 = .ok (.iconst 0, 1) := by decide +kernel
theorem dX8_filedBy_2 : decode cX8_filedBy 2 = .ok (.iconst 3, 1) := by decide +kernel
theorem dX8_filedBy_3 : decode cX8_filedBy 3 = .ok (.invokevirtual 67, 3) := by decide +kernel
theorem dX8_filedBy_6 : decode cX8_filedBy 6 = .ok (.aload_n 0, 1) := by decide +kernel
theorem dX8_filedBy_7 : decode cX8_filedBy 7 = .ok (.getfield 7, 3) := by decide +kernel
theorem dX8_filedBy_10 : decode cX8_filedBy 10 = .ok (.bipush 119, 2) := by decide +kernel
theorem dX8_filedBy_12 : decode cX8_filedBy 12 = .ok (.iload_n 1, 1) := by decide +kernel
theorem dX8_filedBy_13 : decode cX8_filedBy 13 = .ok (.iastore, 1) := by decide +kernel
theorem dX8_filedBy_14 : decode cX8_filedBy 14 = .ok (.aload_n 0, 1) := by decide +kernel
theorem dX8_filedBy_15 : decode cX8_filedBy 15 = .ok (.iload_n 2, 1) := by decide +kernel
theorem dX8_filedBy_16 : decode cX8_filedBy 16 = .ok (.invokevirtual 192, 3) := by decide +kernel
theorem dX8_filedBy_19 : decode cX8_filedBy 19 = .ok (.aload_n 0, 1) := by decide +kernel
theorem dX8_filedBy_20 : decode cX8_filedBy 20 = .ok (.bipush 117, 2) := by decide +kernel
theorem dX8_filedBy_22 : decode cX8_filedBy 22 = .ok (.invokevirtual 207, 3) := by decide +kernel
theorem dX8_filedBy_25 : decode cX8_filedBy 25 = .ok (.invokestatic 201, 3) := by decide +kernel
theorem dX8_filedBy_28 : decode cX8_filedBy 28 = .ok (.ireturn, 1) := by decide +kernel
theorem dX8_harmOf_0 : decode cX8_harmOf 0 = .ok (.aload_n 0, 1) := by decide +kernel
theorem dX8_harmOf_1 : decode cX8_harmOf 1 = .ok (.iconst (-1), 1) := by decide +kernel
theorem dX8_harmOf_2 : decode cX8_harmOf 2 = .ok (.iload_n 2, 1) := by decide +kernel
theorem dX8_harmOf_3 : decode cX8_harmOf 3 = .ok (.invokevirtual 216, 3) := by decide +kernel
theorem dX8_harmOf_6 : decode cX8_harmOf 6 = .ok (.aload_n 0, 1) := by decide +kernel
theorem dX8_harmOf_7 : decode cX8_harmOf 7 = .ok (.iload_n 1, 1) := by decide +kernel
theorem dX8_harmOf_8 : decode cX8_harmOf 8 = .ok (.iload_n 2, 1) := by decide +kernel
theorem dX8_harmOf_9 : decode cX8_harmOf 9 = .ok (.invokevirtual 216, 3) := by decide +kernel
theorem dX8_harmOf_12 : decode cX8_harmOf 12 = .ok (.isub, 1) := by decide +kernel
theorem dX8_harmOf_13 : decode cX8_harmOf 13 = .ok (.ireturn, 1) := by decide +kernel
theorem dX8_harm_0 : decode cX8_harm 0 = .ok (.aload_n 0, 1) := by decide +kernel
theorem dX8_harm_1 : decode cX8_harm 1 = .ok (.iload_n 1, 1) := by decide +kernel
theorem dX8_harm_2 : decode cX8_harm 2 = .ok (.invokevirtual 151, 3) := by decide +kernel
theorem dX8_harm_5 : decode cX8_harm 5 = .ok (.ifCond .ne 6, 3) := by decide +kernel
theorem dX8_harm_8 : decode cX8_harm 8 = .ok (.bipush (-2), 2) := by decide +kernel
theorem dX8_harm_10 : decode cX8_harm 10 = .ok (.ireturn, 1) := by decide +kernel
theorem dX8_harm_11 : decode cX8_harm 11 = .ok (.iload_n 2, 1) := by decide +kernel
theorem dX8_harm_12 : decode cX8_harm 12 = .ok (.i2l, 1) := by decide +kernel
theorem dX8_harm_13 : decode cX8_harm 13 = .ok (.lconst 1, 1) := by decide +kernel
theorem dX8_harm_14 : decode cX8_harm 14 = .ok (.ldc2_w 183, 3) := by decide +kernel
theorem dX8_harm_17 : decode cX8_harm 17 = .ok (.invokestatic 73, 3) := by decide +kernel
theorem dX8_harm_20 : decode cX8_harm 20 = .ok (.ifCond .eq 15, 3) := by decide +kernel
theorem dX8_harm_23 : decode cX8_harm 23 = .ok (.bipush 100, 2) := by decide +kernel
theorem dX8_harm_25 : decode cX8_harm 25 = .ok (.aload_n 0, 1) := by decide +kernel
theorem dX8_harm_26 : decode cX8_harm 26 = .ok (.iload_n 1, 1) := by decide +kernel
theorem dX8_harm_27 : decode cX8_harm 27 = .ok (.iload_n 2, 1) := by decide +kernel
theorem dX8_harm_28 : decode cX8_harm 28 = .ok (.invokevirtual 219, 3) := by decide +kernel
theorem dX8_harm_31 : decode cX8_harm 31 = .ok (.iadd, 1) := by decide +kernel
theorem dX8_harm_32 : decode cX8_harm 32 = .ok (.goto 5, 3) := by decide +kernel
theorem dX8_harm_35 : decode cX8_harm 35 = .ok (.bipush (-3), 2) := by decide +kernel
theorem dX8_harm_37 : decode cX8_harm 37 = .ok (.ireturn, 1) := by decide +kernel
theorem dX8_worst_0 : decode cX8_worst 0 = .ok (.iload_n 1, 1) := by decide +kernel
theorem dX8_worst_1 : decode cX8_worst 1 = .ok (.i2l, 1) := by decide +kernel
theorem dX8_worst_2 : decode cX8_worst 2 = .ok (.lconst 1, 1) := by decide +kernel
theorem dX8_worst_3 : decode cX8_worst 3 = .ok (.ldc2_w 183, 3) := by decide +kernel
theorem dX8_worst_6 : decode cX8_worst 6 = .ok (.invokestatic 73, 3) := by decide +kernel
theorem dX8_worst_9 : decode cX8_worst 9 = .ok (.ifCond .ne 6, 3) := by decide +kernel
theorem dX8_worst_12 : decode cX8_worst 12 = .ok (.bipush (-3), 2) := by decide +kernel
theorem dX8_worst_14 : decode cX8_worst 14 = .ok (.ireturn, 1) := by decide +kernel
theorem dX8_worst_15 : decode cX8_worst 15 = .ok (.iconst 0, 1) := by decide +kernel
theorem dX8_worst_16 : decode cX8_worst 16 = .ok (.istore_n 2, 1) := by decide +kernel
theorem dX8_worst_17 : decode cX8_worst 17 = .ok (.iconst 1, 1) := by decide +kernel
theorem dX8_worst_18 : decode cX8_worst 18 = .ok (.istore_n 3, 1) := by decide +kernel
theorem dX8_worst_19 : decode cX8_worst 19 = .ok (.iload_n 3, 1) := by decide +kernel
theorem dX8_worst_20 : decode cX8_worst 20 = .ok (.aload_n 0, 1) := by decide +kernel
theorem dX8_worst_21 : decode cX8_worst 21 = .ok (.getfield 23, 3) := by decide +kernel
theorem dX8_worst_24 : decode cX8_worst 24 = .ok (.if_icmp .ge 30, 3) := by decide +kernel
theorem dX8_worst_27 : decode cX8_worst 27 = .ok (.aload_n 0, 1) := by decide +kernel
theorem dX8_worst_28 : decode cX8_worst 28 = .ok (.iload_n 3, 1) := by decide +kernel
theorem dX8_worst_29 : decode cX8_worst 29 = .ok (.iload_n 1, 1) := by decide +kernel
theorem dX8_worst_30 : decode cX8_worst 30 = .ok (.invokevirtual 219, 3) := by decide +kernel
theorem dX8_worst_33 : decode cX8_worst 33 = .ok (.aload_n 0, 1) := by decide +kernel
theorem dX8_worst_34 : decode cX8_worst 34 = .ok (.iload_n 2, 1) := by decide +kernel
theorem dX8_worst_35 : decode cX8_worst 35 = .ok (.iload_n 1, 1) := by decide +kernel
theorem dX8_worst_36 : decode cX8_worst 36 = .ok (.invokevirtual 219, 3) := by decide +kernel
theorem dX8_worst_39 : decode cX8_worst 39 = .ok (.if_icmp .le 7, 3) := by decide +kernel
theorem dX8_worst_42 : decode cX8_worst 42 = .ok (.iload_n 3, 1) := by decide +kernel
theorem dX8_worst_43 : decode cX8_worst 43 = .ok (.goto 4, 3) := by decide +kernel
theorem dX8_worst_46 : decode cX8_worst 46 = .ok (.iload_n 2, 1) := by decide +kernel
theorem dX8_worst_47 : decode cX8_worst 47 = .ok (.istore_n 2, 1) := by decide +kernel
theorem dX8_worst_48 : decode cX8_worst 48 = .ok (.iinc 3 1, 3) := by decide +kernel
theorem dX8_worst_51 : decode cX8_worst 51 = .ok (.goto (-32), 3) := by decide +kernel
theorem dX8_worst_54 : decode cX8_worst 54 = .ok (.iload_n 2, 1) := by decide +kernel
theorem dX8_worst_55 : decode cX8_worst 55 = .ok (.ireturn, 1) := by decide +kernel
theorem dX8_seen_0 : decode cX8_seen 0 = .ok (.aload_n 0, 1) := by decide +kernel
theorem dX8_seen_1 : decode cX8_seen 1 = .ok (.iload_n 1, 1) := by decide +kernel
theorem dX8_seen_2 : decode cX8_seen 2 = .ok (.invokevirtual 160, 3) := by decide +kernel
theorem dX8_seen_5 : decode cX8_seen 5 = .ok (.ifCond .eq 11, 3) := by decide +kernel
theorem dX8_seen_8 : decode cX8_seen 8 = .ok (.aload_n 0, 1) := by decide +kernel
theorem dX8_seen_9 : decode cX8_seen 9 = .ok (.iload_n 2, 1) := by decide +kernel
theorem dX8_seen_10 : decode cX8_seen 10 = .ok (.invokevirtual 151, 3) := by decide +kernel
theorem dX8_seen_13 : decode cX8_seen 13 = .ok (.ifCond .ne 6, 3) := by decide +kernel
theorem dX8_seen_16 : decode cX8_seen 16 = .ok (.bipush (-2), 2) := by decide +kernel
theorem dX8_seen_18 : decode cX8_seen 18 = .ok (.ireturn, 1) := by decide +kernel
theorem dX8_seen_19 : decode cX8_seen 19 = .ok (.iload_n 3, 1) := by decide +kernel
theorem dX8_seen_20 : decode cX8_seen 20 = .ok (.i2l, 1) := by decide +kernel
theorem dX8_seen_21 : decode cX8_seen 21 = .ok (.lconst 0, 1) := by decide +kernel
theorem dX8_seen_22 : decode cX8_seen 22 = .ok (.ldc2_w 183, 3) := by decide +kernel
theorem dX8_seen_25 : decode cX8_seen 25 = .ok (.invokestatic 73, 3) := by decide +kernel
theorem dX8_seen_28 : decode cX8_seen 28 = .ok (.ifCond .ne 6, 3) := by decide +kernel
theorem dX8_seen_31 : decode cX8_seen 31 = .ok (.bipush (-3), 2) := by decide +kernel
theorem dX8_seen_33 : decode cX8_seen 33 = .ok (.ireturn, 1) := by decide +kernel
theorem dX8_seen_34 : decode cX8_seen 34 = .ok (.aload_n 0, 1) := by decide +kernel
theorem dX8_seen_35 : decode cX8_seen 35 = .ok (.getfield 148, 3) := by decide +kernel
theorem dX8_seen_38 : decode cX8_seen 38 = .ok (.bipush 6, 2) := by decide +kernel
theorem dX8_seen_40 : decode cX8_seen 40 = .ok (.if_icmp .ne 6, 3) := by decide +kernel
theorem dX8_seen_43 : decode cX8_seen 43 = .ok (.bipush (-5), 2) := by decide +kernel
theorem dX8_seen_45 : decode cX8_seen 45 = .ok (.ireturn, 1) := by decide +kernel
theorem dX8_seen_46 : decode cX8_seen 46 = .ok (.aload_n 0, 1) := by decide +kernel
theorem dX8_seen_47 : decode cX8_seen 47 = .ok (.getfield 48, 3) := by decide +kernel
theorem dX8_seen_50 : decode cX8_seen 50 = .ok (.iconst 3, 1) := by decide +kernel
theorem dX8_seen_51 : decode cX8_seen 51 = .ok (.aload_n 0, 1) := by decide +kernel
theorem dX8_seen_52 : decode cX8_seen 52 = .ok (.getfield 148, 3) := by decide +kernel
theorem dX8_seen_55 : decode cX8_seen 55 = .ok (.imul, 1) := by decide +kernel
theorem dX8_seen_56 : decode cX8_seen 56 = .ok (.iload_n 1, 1) := by decide +kernel
theorem dX8_seen_57 : decode cX8_seen 57 = .ok (.iastore, 1) := by decide +kernel
theorem dX8_seen_58 : decode cX8_seen 58 = .ok (.aload_n 0, 1) := by decide +kernel
theorem dX8_seen_59 : decode cX8_seen 59 = .ok (.getfield 48, 3) := by decide +kernel
theorem dX8_seen_62 : decode cX8_seen 62 = .ok (.iconst 3, 1) := by decide +kernel
theorem dX8_seen_63 : decode cX8_seen 63 = .ok (.aload_n 0, 1) := by decide +kernel
theorem dX8_seen_64 : decode cX8_seen 64 = .ok (.getfield 148, 3) := by decide +kernel
theorem dX8_seen_67 : decode cX8_seen 67 = .ok (.imul, 1) := by decide +kernel
theorem dX8_seen_68 : decode cX8_seen 68 = .ok (.iconst 1, 1) := by decide +kernel
theorem dX8_seen_69 : decode cX8_seen 69 = .ok (.iadd, 1) := by decide +kernel
theorem dX8_seen_70 : decode cX8_seen 70 = .ok (.iload_n 2, 1) := by decide +kernel
theorem dX8_seen_71 : decode cX8_seen 71 = .ok (.iastore, 1) := by decide +kernel
theorem dX8_seen_72 : decode cX8_seen 72 = .ok (.aload_n 0, 1) := by decide +kernel
theorem dX8_seen_73 : decode cX8_seen 73 = .ok (.getfield 48, 3) := by decide +kernel
theorem dX8_seen_76 : decode cX8_seen 76 = .ok (.iconst 3, 1) := by decide +kernel
theorem dX8_seen_77 : decode cX8_seen 77 = .ok (.aload_n 0, 1) := by decide +kernel
theorem dX8_seen_78 : decode cX8_seen 78 = .ok (.getfield 148, 3) := by decide +kernel
theorem dX8_seen_81 : decode cX8_seen 81 = .ok (.imul, 1) := by decide +kernel
theorem dX8_seen_82 : decode cX8_seen 82 = .ok (.iconst 2, 1) := by decide +kernel
theorem dX8_seen_83 : decode cX8_seen 83 = .ok (.iadd, 1) := by decide +kernel
theorem dX8_seen_84 : decode cX8_seen 84 = .ok (.iload_n 3, 1) := by decide +kernel
theorem dX8_seen_85 : decode cX8_seen 85 = .ok (.iastore, 1) := by decide +kernel
theorem dX8_seen_86 : decode cX8_seen 86 = .ok (.aload_n 0, 1) := by decide +kernel
theorem dX8_seen_87 : decode cX8_seen 87 = .ok (.dup, 1) := by decide +kernel
theorem dX8_seen_88 : decode cX8_seen 88 = .ok (.getfield 148, 3) := by decide +kernel
theorem dX8_seen_91 : decode cX8_seen 91 = .ok (.iconst 1, 1) := by decide +kernel
theorem dX8_seen_92 : decode cX8_seen 92 = .ok (.iadd, 1) := by decide +kernel
theorem dX8_seen_93 : decode cX8_seen 93 = .ok (.putfield 148, 3) := by decide +kernel
theorem dX8_seen_96 : decode cX8_seen 96 = .ok (.aload_n 0, 1) := by decide +kernel
theorem dX8_seen_97 : decode cX8_seen 97 = .ok (.getfield 148, 3) := by decide +kernel
theorem dX8_seen_100 : decode cX8_seen 100 = .ok (.ireturn, 1) := by decide +kernel
theorem dX8_forget_0 : decode cX8_forget 0 = .ok (.aload_n 0, 1) := by decide +kernel
theorem dX8_forget_1 : decode cX8_forget 1 = .ok (.getfield 148, 3) := by decide +kernel
theorem dX8_forget_4 : decode cX8_forget 4 = .ok (.istore_n 1, 1) := by decide +kernel
theorem dX8_forget_5 : decode cX8_forget 5 = .ok (.aload_n 0, 1) := by decide +kernel
theorem dX8_forget_6 : decode cX8_forget 6 = .ok (.iconst 0, 1) := by decide +kernel
theorem dX8_forget_7 : decode cX8_forget 7 = .ok (.putfield 148, 3) := by decide +kernel
theorem dX8_forget_10 : decode cX8_forget 10 = .ok (.iload_n 1, 1) := by decide +kernel
theorem dX8_forget_11 : decode cX8_forget 11 = .ok (.ireturn, 1) := by decide +kernel
theorem dX8_isSoBy_0 : decode cX8_isSoBy 0 = .ok (.bipush 117, 2) := by decide +kernel
theorem dX8_isSoBy_2 : decode cX8_isSoBy 2 = .ok (.istore_n 3, 1) := by decide +kernel
theorem dX8_isSoBy_3 : decode cX8_isSoBy 3 = .ok (.iconst 1, 1) := by decide +kernel
theorem dX8_isSoBy_4 : decode cX8_isSoBy 4 = .ok (.istore 4, 2) := by decide +kernel
theorem dX8_isSoBy_6 : decode cX8_isSoBy 6 = .ok (.aload_n 0, 1) := by decide +kernel
theorem dX8_isSoBy_7 : decode cX8_isSoBy 7 = .ok (.iconst 4, 1) := by decide +kernel
theorem dX8_isSoBy_8 : decode cX8_isSoBy 8 = .ok (.iconst 3, 1) := by decide +kernel
theorem dX8_isSoBy_9 : decode cX8_isSoBy 9 = .ok (.invokevirtual 67, 3) := by decide +kernel
theorem dX8_isSoBy_12 : decode cX8_isSoBy 12 = .ok (.aload_n 0, 1) := by decide +kernel
theorem dX8_isSoBy_13 : decode cX8_isSoBy 13 = .ok (.getfield 7, 3) := by decide +kernel
theorem dX8_isSoBy_16 : decode cX8_isSoBy 16 = .ok (.iload_n 3, 1) := by decide +kernel
theorem dX8_isSoBy_17 : decode cX8_isSoBy 17 = .ok (.bipush 21, 2) := by decide +kernel
theorem dX8_isSoBy_19 : decode cX8_isSoBy 19 = .ok (.iadd, 1) := by decide +kernel
theorem dX8_isSoBy_20 : decode cX8_isSoBy 20 = .ok (.iload_n 1, 1) := by decide +kernel
theorem dX8_isSoBy_21 : decode cX8_isSoBy 21 = .ok (.iadd, 1) := by decide +kernel
theorem dX8_isSoBy_22 : decode cX8_isSoBy 22 = .ok (.iload_n 2, 1) := by decide +kernel
theorem dX8_isSoBy_23 : decode cX8_isSoBy 23 = .ok (.iastore, 1) := by decide +kernel
theorem dX8_isSoBy_24 : decode cX8_isSoBy 24 = .ok (.iconst 0, 1) := by decide +kernel
theorem dX8_isSoBy_25 : decode cX8_isSoBy 25 = .ok (.istore 5, 2) := by decide +kernel
theorem dX8_isSoBy_27 : decode cX8_isSoBy 27 = .ok (.iload 5, 2) := by decide +kernel
theorem dX8_isSoBy_29 : decode cX8_isSoBy 29 = .ok (.bipush 100, 2) := by decide +kernel
theorem dX8_isSoBy_31 : decode cX8_isSoBy 31 = .ok (.if_icmp .ge 103, 3) := by decide +kernel
theorem dX8_isSoBy_34 : decode cX8_isSoBy 34 = .ok (.iload 4, 2) := by decide +kernel
theorem dX8_isSoBy_36 : decode cX8_isSoBy 36 = .ok (.ifCond .eq 98, 3) := by decide +kernel
theorem dX8_isSoBy_39 : decode cX8_isSoBy 39 = .ok (.iconst 0, 1) := by decide +kernel
theorem dX8_isSoBy_40 : decode cX8_isSoBy 40 = .ok (.istore 6, 2) := by decide +kernel
theorem dX8_isSoBy_42 : decode cX8_isSoBy 42 = .ok (.iload 6, 2) := by decide +kernel
theorem dX8_isSoBy_44 : decode cX8_isSoBy 44 = .ok (.aload_n 0, 1) := by decide +kernel
theorem dX8_isSoBy_45 : decode cX8_isSoBy 45 = .ok (.getfield 148, 3) := by decide +kernel
theorem dX8_isSoBy_48 : decode cX8_isSoBy 48 = .ok (.if_icmp .ge 75, 3) := by decide +kernel
theorem dX8_isSoBy_51 : decode cX8_isSoBy 51 = .ok (.iload 4, 2) := by decide +kernel
theorem dX8_isSoBy_53 : decode cX8_isSoBy 53 = .ok (.ifCond .eq 61, 3) := by decide +kernel
theorem dX8_isSoBy_56 : decode cX8_isSoBy 56 = .ok (.aload_n 0, 1) := by decide +kernel
theorem dX8_isSoBy_57 : decode cX8_isSoBy 57 = .ok (.getfield 48, 3) := by decide +kernel
theorem dX8_isSoBy_60 : decode cX8_isSoBy 60 = .ok (.iconst 3, 1) := by decide +kernel
theorem dX8_isSoBy_61 : decode cX8_isSoBy 61 = .ok (.iload 6, 2) := by decide +kernel
theorem dX8_isSoBy_63 : decode cX8_isSoBy 63 = .ok (.imul, 1) := by decide +kernel
theorem dX8_isSoBy_64 : decode cX8_isSoBy 64 = .ok (.iaload, 1) := by decide +kernel
theorem dX8_isSoBy_65 : decode cX8_isSoBy 65 = .ok (.iload_n 1, 1) := by decide +kernel
theorem dX8_isSoBy_66 : decode cX8_isSoBy 66 = .ok (.if_icmp .ne 44, 3) := by decide +kernel
theorem dX8_isSoBy_69 : decode cX8_isSoBy 69 = .ok (.aload_n 0, 1) := by decide +kernel
theorem dX8_isSoBy_70 : decode cX8_isSoBy 70 = .ok (.getfield 48, 3) := by decide +kernel
theorem dX8_isSoBy_73 : decode cX8_isSoBy 73 = .ok (.iconst 3, 1) := by decide +kernel
theorem dX8_isSoBy_74 : decode cX8_isSoBy 74 = .ok (.iload 6, 2) := by decide +kernel
theorem dX8_isSoBy_76 : decode cX8_isSoBy 76 = .ok (.imul, 1) := by decide +kernel
theorem dX8_isSoBy_77 : decode cX8_isSoBy 77 = .ok (.iconst 2, 1) := by decide +kernel
theorem dX8_isSoBy_78 : decode cX8_isSoBy 78 = .ok (.iadd, 1) := by decide +kernel
theorem dX8_isSoBy_79 : decode cX8_isSoBy 79 = .ok (.iaload, 1) := by decide +kernel
theorem dX8_isSoBy_80 : decode cX8_isSoBy 80 = .ok (.iload 5, 2) := by decide +kernel
theorem dX8_isSoBy_82 : decode cX8_isSoBy 82 = .ok (.if_icmp .ne 28, 3) := by decide +kernel
theorem dX8_isSoBy_85 : decode cX8_isSoBy 85 = .ok (.aload_n 0, 1) := by decide +kernel
theorem dX8_isSoBy_86 : decode cX8_isSoBy 86 = .ok (.getfield 7, 3) := by decide +kernel
theorem dX8_isSoBy_89 : decode cX8_isSoBy 89 = .ok (.iload_n 3, 1) := by decide +kernel
theorem dX8_isSoBy_90 : decode cX8_isSoBy 90 = .ok (.bipush 15, 2) := by decide +kernel
theorem dX8_isSoBy_92 : decode cX8_isSoBy 92 = .ok (.iadd, 1) := by decide +kernel
theorem dX8_isSoBy_93 : decode cX8_isSoBy 93 = .ok (.iload_n 1, 1) := by decide +kernel
theorem dX8_isSoBy_94 : decode cX8_isSoBy 94 = .ok (.iadd, 1) := by decide +kernel
theorem dX8_isSoBy_95 : decode cX8_isSoBy 95 = .ok (.iaload, 1) := by decide +kernel
theorem dX8_isSoBy_96 : decode cX8_isSoBy 96 = .ok (.aload_n 0, 1) := by decide +kernel
theorem dX8_isSoBy_97 : decode cX8_isSoBy 97 = .ok (.getfield 48, 3) := by decide +kernel
theorem dX8_isSoBy_100 : decode cX8_isSoBy 100 = .ok (.iconst 3, 1) := by decide +kernel
theorem dX8_isSoBy_101 : decode cX8_isSoBy 101 = .ok (.iload 6, 2) := by decide +kernel
theorem dX8_isSoBy_103 : decode cX8_isSoBy 103 = .ok (.imul, 1) := by decide +kernel
theorem dX8_isSoBy_104 : decode cX8_isSoBy 104 = .ok (.iconst 1, 1) := by decide +kernel
theorem dX8_isSoBy_105 : decode cX8_isSoBy 105 = .ok (.iadd, 1) := by decide +kernel
theorem dX8_isSoBy_106 : decode cX8_isSoBy 106 = .ok (.iaload, 1) := by decide +kernel
theorem dX8_isSoBy_107 : decode cX8_isSoBy 107 = .ok (.if_icmp .ne 7, 3) := by decide +kernel
theorem dX8_isSoBy_110 : decode cX8_isSoBy 110 = .ok (.iconst 1, 1) := by decide +kernel
theorem dX8_isSoBy_111 : decode cX8_isSoBy 111 = .ok (.goto 4, 3) := by decide +kernel
theorem dX8_isSoBy_114 : decode cX8_isSoBy 114 = .ok (.iconst 0, 1) := by decide +kernel
theorem dX8_isSoBy_115 : decode cX8_isSoBy 115 = .ok (.istore 4, 2) := by decide +kernel
theorem dX8_isSoBy_117 : decode cX8_isSoBy 117 = .ok (.iinc 6 1, 3) := by decide +kernel
theorem dX8_isSoBy_120 : decode cX8_isSoBy 120 = .ok (.goto (-78), 3) := by decide +kernel
theorem dX8_isSoBy_123 : decode cX8_isSoBy 123 = .ok (.aload_n 0, 1) := by decide +kernel
theorem dX8_isSoBy_124 : decode cX8_isSoBy 124 = .ok (.iload_n 3, 1) := by decide +kernel
theorem dX8_isSoBy_125 : decode cX8_isSoBy 125 = .ok (.invokevirtual 185, 3) := by decide +kernel
theorem dX8_isSoBy_128 : decode cX8_isSoBy 128 = .ok (.iinc 5 1, 3) := by decide +kernel
theorem dX8_isSoBy_131 : decode cX8_isSoBy 131 = .ok (.goto (-104), 3) := by decide +kernel
theorem dX8_isSoBy_134 : decode cX8_isSoBy 134 = .ok (.iload 4, 2) := by decide +kernel
theorem dX8_isSoBy_136 : decode cX8_isSoBy 136 = .ok (.ireturn, 1) := by decide +kernel
theorem dX8_stamps_0 : decode cX8_stamps 0 = .ok (.aload_n 0, 1) := by decide +kernel
theorem dX8_stamps_1 : decode cX8_stamps 1 = .ok (.iload_n 1, 1) := by decide +kernel
theorem dX8_stamps_2 : decode cX8_stamps 2 = .ok (.invokevirtual 160, 3) := by decide +kernel
theorem dX8_stamps_5 : decode cX8_stamps 5 = .ok (.ifCond .ne 6, 3) := by decide +kernel
theorem dX8_stamps_8 : decode cX8_stamps 8 = .ok (.bipush (-2), 2) := by decide +kernel
theorem dX8_stamps_10 : decode cX8_stamps 10 = .ok (.ireturn, 1) := by decide +kernel
theorem dX8_stamps_11 : decode cX8_stamps 11 = .ok (.iconst 0, 1) := by decide +kernel
theorem dX8_stamps_12 : decode cX8_stamps 12 = .ok (.istore_n 2, 1) := by decide +kernel
theorem dX8_stamps_13 : decode cX8_stamps 13 = .ok (.iconst 0, 1) := by decide +kernel
theorem dX8_stamps_14 : decode cX8_stamps 14 = .ok (.istore_n 3, 1) := by decide +kernel
theorem dX8_stamps_15 : decode cX8_stamps 15 = .ok (.iload_n 3, 1) := by decide +kernel
theorem dX8_stamps_16 : decode cX8_stamps 16 = .ok (.bipush 10, 2) := by decide +kernel
theorem dX8_stamps_18 : decode cX8_stamps 18 = .ok (.if_icmp .ge 28, 3) := by decide +kernel
theorem dX8_stamps_21 : decode cX8_stamps 21 = .ok (.iload_n 2, 1) := by decide +kernel
theorem dX8_stamps_22 : decode cX8_stamps 22 = .ok (.aload_n 0, 1) := by decide +kernel
theorem dX8_stamps_23 : decode cX8_stamps 23 = .ok (.iload_n 1, 1) := by decide +kernel
theorem dX8_stamps_24 : decode cX8_stamps 24 = .ok (.iload_n 3, 1) := by decide +kernel
theorem dX8_stamps_25 : decode cX8_stamps 25 = .ok (.invokevirtual 222, 3) := by decide +kernel
theorem dX8_stamps_28 : decode cX8_stamps 28 = .ok (.ifCond .eq 9, 3) := by decide +kernel
theorem dX8_stamps_31 : decode cX8_stamps 31 = .ok (.iconst 1, 1) := by decide +kernel
theorem dX8_stamps_32 : decode cX8_stamps 32 = .ok (.iload_n 3, 1) := by decide +kernel
theorem dX8_stamps_33 : decode cX8_stamps 33 = .ok (.ishl, 1) := by decide +kernel
theorem dX8_stamps_34 : decode cX8_stamps 34 = .ok (.goto 4, 3) := by decide +kernel
theorem dX8_stamps_37 : decode cX8_stamps 37 = .ok (.iconst 0, 1) := by decide +kernel
theorem dX8_stamps_38 : decode cX8_stamps 38 = .ok (.ior, 1) := by decide +kernel
theorem dX8_stamps_39 : decode cX8_stamps 39 = .ok (.istore_n 2, 1) := by decide +kernel
theorem dX8_stamps_40 : decode cX8_stamps 40 = .ok (.iinc 3 1, 3) := by decide +kernel
theorem dX8_stamps_43 : decode cX8_stamps 43 = .ok (.goto (-28), 3) := by decide +kernel
theorem dX8_stamps_46 : decode cX8_stamps 46 = .ok (.iload_n 2, 1) := by decide +kernel
theorem dX8_stamps_47 : decode cX8_stamps 47 = .ok (.ireturn, 1) := by decide +kernel
theorem dX8_crumbs_0 : decode cX8_crumbs 0 = .ok (.aload_n 0, 1) := by decide +kernel
theorem dX8_crumbs_1 : decode cX8_crumbs 1 = .ok (.iload_n 1, 1) := by decide +kernel
theorem dX8_crumbs_2 : decode cX8_crumbs 2 = .ok (.invokevirtual 151, 3) := by decide +kernel
theorem dX8_crumbs_5 : decode cX8_crumbs 5 = .ok (.ifCond .ne 6, 3) := by decide +kernel
theorem dX8_crumbs_8 : decode cX8_crumbs 8 = .ok (.bipush (-2), 2) := by decide +kernel
theorem dX8_crumbs_10 : decode cX8_crumbs 10 = .ok (.ireturn, 1) := by decide +kernel
theorem dX8_crumbs_11 : decode cX8_crumbs 11 = .ok (.iload_n 2, 1) := by decide +kernel
theorem dX8_crumbs_12 : decode cX8_crumbs 12 = .ok (.i2l, 1) := by decide +kernel
theorem dX8_crumbs_13 : decode cX8_crumbs 13 = .ok (.lconst 0, 1) := by decide +kernel
theorem dX8_crumbs_14 : decode cX8_crumbs 14 = .ok (.ldc2_w 183, 3) := by decide +kernel
theorem dX8_crumbs_17 : decode cX8_crumbs 17 = .ok (.invokestatic 73, 3) := by decide +kernel
theorem dX8_crumbs_20 : decode cX8_crumbs 20 = .ok (.ifCond .ne 6, 3) := by decide +kernel
theorem dX8_crumbs_23 : decode cX8_crumbs 23 = .ok (.bipush (-3), 2) := by decide +kernel
theorem dX8_crumbs_25 : decode cX8_crumbs 25 = .ok (.ireturn, 1) := by decide +kernel
theorem dX8_crumbs_26 : decode cX8_crumbs 26 = .ok (.aload_n 0, 1) := by decide +kernel
theorem dX8_crumbs_27 : decode cX8_crumbs 27 = .ok (.getfield 51, 3) := by decide +kernel
theorem dX8_crumbs_30 : decode cX8_crumbs 30 = .ok (.iload_n 1, 1) := by decide +kernel
theorem dX8_crumbs_31 : decode cX8_crumbs 31 = .ok (.iaload, 1) := by decide +kernel
theorem dX8_crumbs_32 : decode cX8_crumbs 32 = .ok (.istore_n 3, 1) := by decide +kernel
theorem dX8_crumbs_33 : decode cX8_crumbs 33 = .ok (.aload_n 0, 1) := by decide +kernel
theorem dX8_crumbs_34 : decode cX8_crumbs 34 = .ok (.getfield 51, 3) := by decide +kernel
theorem dX8_crumbs_37 : decode cX8_crumbs 37 = .ok (.iload_n 1, 1) := by decide +kernel
theorem dX8_crumbs_38 : decode cX8_crumbs 38 = .ok (.iload_n 2, 1) := by decide +kernel
theorem dX8_crumbs_39 : decode cX8_crumbs 39 = .ok (.iastore, 1) := by decide +kernel
theorem dX8_crumbs_40 : decode cX8_crumbs 40 = .ok (.iload_n 3, 1) := by decide +kernel
theorem dX8_crumbs_41 : decode cX8_crumbs 41 = .ok (.ireturn, 1) := by decide +kernel
theorem dX8_odds_0 : decode cX8_odds 0 = .ok (.aload_n 0, 1) := by decide +kernel
theorem dX8_odds_1 : decode cX8_odds 1 = .ok (.iload_n 1, 1) := by decide +kernel
theorem dX8_odds_2 : decode cX8_odds 2 = .ok (.invokevirtual 151, 3) := by decide +kernel
theorem dX8_odds_5 : decode cX8_odds 5 = .ok (.ifCond .ne 6, 3) := by decide +kernel
theorem dX8_odds_8 : decode cX8_odds 8 = .ok (.bipush (-2), 2) := by decide +kernel
theorem dX8_odds_10 : decode cX8_odds 10 = .ok (.ireturn, 1) := by decide +kernel
theorem dX8_odds_11 : decode cX8_odds 11 = .ok (.iload_n 2, 1) := by decide +kernel
theorem dX8_odds_12 : decode cX8_odds 12 = .ok (.i2l, 1) := by decide +kernel
theorem dX8_odds_13 : decode cX8_odds 13 = .ok (.lconst 0, 1) := by decide +kernel
theorem dX8_odds_14 : decode cX8_odds 14 = .ok (.lconst 1, 1) := by decide +kernel
theorem dX8_odds_15 : decode cX8_odds 15 = .ok (.invokestatic 73, 3) := by decide +kernel
theorem dX8_odds_18 : decode cX8_odds 18 = .ok (.ifCond .ne 6, 3) := by decide +kernel
theorem dX8_odds_21 : decode cX8_odds 21 = .ok (.bipush (-3), 2) := by decide +kernel
theorem dX8_odds_23 : decode cX8_odds 23 = .ok (.ireturn, 1) := by decide +kernel
theorem dX8_odds_24 : decode cX8_odds 24 = .ok (.iconst 0, 1) := by decide +kernel
theorem dX8_odds_25 : decode cX8_odds 25 = .ok (.istore_n 3, 1) := by decide +kernel
theorem dX8_odds_26 : decode cX8_odds 26 = .ok (.iconst 0, 1) := by decide +kernel
theorem dX8_odds_27 : decode cX8_odds 27 = .ok (.istore 4, 2) := by decide +kernel
theorem dX8_odds_29 : decode cX8_odds 29 = .ok (.iload 4, 2) := by decide +kernel
theorem dX8_odds_31 : decode cX8_odds 31 = .ok (.aload_n 0, 1) := by decide +kernel
theorem dX8_odds_32 : decode cX8_odds 32 = .ok (.getfield 23, 3) := by decide +kernel
theorem dX8_odds_35 : decode cX8_odds 35 = .ok (.if_icmp .ge 19, 3) := by decide +kernel
theorem dX8_odds_38 : decode cX8_odds 38 = .ok (.iload_n 3, 1) := by decide +kernel
theorem dX8_odds_39 : decode cX8_odds 39 = .ok (.aload_n 0, 1) := by decide +kernel
theorem dX8_odds_40 : decode cX8_odds 40 = .ok (.getfield 51, 3) := by decide +kernel
theorem dX8_odds_43 : decode cX8_odds 43 = .ok (.iload 4, 2) := by decide +kernel
theorem dX8_odds_45 : decode cX8_odds 45 = .ok (.iaload, 1) := by decide +kernel
theorem dX8_odds_46 : decode cX8_odds 46 = .ok (.iadd, 1) := by decide +kernel
theorem dX8_odds_47 : decode cX8_odds 47 = .ok (.istore_n 3, 1) := by decide +kernel
theorem dX8_odds_48 : decode cX8_odds 48 = .ok (.iinc 4 1, 3) := by decide +kernel
theorem dX8_odds_51 : decode cX8_odds 51 = .ok (.goto (-22), 3) := by decide +kernel
theorem dX8_odds_54 : decode cX8_odds 54 = .ok (.iload_n 3, 1) := by decide +kernel
theorem dX8_odds_55 : decode cX8_odds 55 = .ok (.ifCond .ne 6, 3) := by decide +kernel
theorem dX8_odds_58 : decode cX8_odds 58 = .ok (.bipush (-4), 2) := by decide +kernel
theorem dX8_odds_60 : decode cX8_odds 60 = .ok (.ireturn, 1) := by decide +kernel
theorem dX8_odds_61 : decode cX8_odds 61 = .ok (.aload_n 0, 1) := by decide +kernel
theorem dX8_odds_62 : decode cX8_odds 62 = .ok (.getfield 51, 3) := by decide +kernel
theorem dX8_odds_65 : decode cX8_odds 65 = .ok (.iload_n 1, 1) := by decide +kernel
theorem dX8_odds_66 : decode cX8_odds 66 = .ok (.iaload, 1) := by decide +kernel
theorem dX8_odds_67 : decode cX8_odds 67 = .ok (.istore 4, 2) := by decide +kernel
theorem dX8_odds_69 : decode cX8_odds 69 = .ok (.iload_n 3, 1) := by decide +kernel
theorem dX8_odds_70 : decode cX8_odds 70 = .ok (.istore 5, 2) := by decide +kernel
theorem dX8_odds_72 : decode cX8_odds 72 = .ok (.iload 5, 2) := by decide +kernel
theorem dX8_odds_74 : decode cX8_odds 74 = .ok (.ifCond .eq 21, 3) := by decide +kernel
theorem dX8_odds_77 : decode cX8_odds 77 = .ok (.iload 4, 2) := by decide +kernel
theorem dX8_odds_79 : decode cX8_odds 79 = .ok (.iload 5, 2) := by decide +kernel
theorem dX8_odds_81 : decode cX8_odds 81 = .ok (.irem, 1) := by decide +kernel
theorem dX8_odds_82 : decode cX8_odds 82 = .ok (.istore 6, 2) := by decide +kernel
theorem dX8_odds_84 : decode cX8_odds 84 = .ok (.iload 5, 2) := by decide +kernel
theorem dX8_odds_86 : decode cX8_odds 86 = .ok (.istore 4, 2) := by decide +kernel
theorem dX8_odds_88 : decode cX8_odds 88 = .ok (.iload 6, 2) := by decide +kernel
theorem dX8_odds_90 : decode cX8_odds 90 = .ok (.istore 5, 2) := by decide +kernel
theorem dX8_odds_92 : decode cX8_odds 92 = .ok (.goto (-20), 3) := by decide +kernel
theorem dX8_odds_95 : decode cX8_odds 95 = .ok (.iload_n 2, 1) := by decide +kernel
theorem dX8_odds_96 : decode cX8_odds 96 = .ok (.ifCond .ne 15, 3) := by decide +kernel
theorem dX8_odds_99 : decode cX8_odds 99 = .ok (.aload_n 0, 1) := by decide +kernel
theorem dX8_odds_100 : decode cX8_odds 100 = .ok (.getfield 51, 3) := by decide +kernel
theorem dX8_odds_103 : decode cX8_odds 103 = .ok (.iload_n 1, 1) := by decide +kernel
theorem dX8_odds_104 : decode cX8_odds 104 = .ok (.iaload, 1) := by decide +kernel
theorem dX8_odds_105 : decode cX8_odds 105 = .ok (.iload 4, 2) := by decide +kernel
theorem dX8_odds_107 : decode cX8_odds 107 = .ok (.idiv, 1) := by decide +kernel
theorem dX8_odds_108 : decode cX8_odds 108 = .ok (.goto 7, 3) := by decide +kernel
theorem dX8_odds_111 : decode cX8_odds 111 = .ok (.iload_n 3, 1) := by decide +kernel
theorem dX8_odds_112 : decode cX8_odds 112 = .ok (.iload 4, 2) := by decide +kernel
theorem dX8_odds_114 : decode cX8_odds 114 = .ok (.idiv, 1) := by decide +kernel
theorem dX8_odds_115 : decode cX8_odds 115 = .ok (.ireturn, 1) := by decide +kernel
theorem dX8_count_0 : decode cX8_count 0 = .ok (.iload_n 1, 1) := by decide +kernel
theorem dX8_count_1 : decode cX8_count 1 = .ok (.tableswitch 112 0 9 #[55, 60, 65, 70, 75, 82, 89, 96, 102, 107], 55) := by decide +kernel
theorem dX8_count_56 : decode cX8_count 56 = .ok (.aload_n 0, 1) := by decide +kernel
theorem dX8_count_57 : decode cX8_count 57 = .ok (.getfield 23, 3) := by decide +kernel
theorem dX8_count_60 : decode cX8_count 60 = .ok (.ireturn, 1) := by decide +kernel
theorem dX8_count_61 : decode cX8_count 61 = .ok (.aload_n 0, 1) := by decide +kernel
theorem dX8_count_62 : decode cX8_count 62 = .ok (.getfield 61, 3) := by decide +kernel
theorem dX8_count_65 : decode cX8_count 65 = .ok (.ireturn, 1) := by decide +kernel
theorem dX8_count_66 : decode cX8_count 66 = .ok (.aload_n 0, 1) := by decide +kernel
theorem dX8_count_67 : decode cX8_count 67 = .ok (.getfield 64, 3) := by decide +kernel
theorem dX8_count_70 : decode cX8_count 70 = .ok (.ireturn, 1) := by decide +kernel
theorem dX8_count_71 : decode cX8_count 71 = .ok (.aload_n 0, 1) := by decide +kernel
theorem dX8_count_72 : decode cX8_count 72 = .ok (.getfield 39, 3) := by decide +kernel
theorem dX8_count_75 : decode cX8_count 75 = .ok (.ireturn, 1) := by decide +kernel
theorem dX8_count_76 : decode cX8_count 76 = .ok (.aload_n 0, 1) := by decide +kernel
theorem dX8_count_77 : decode cX8_count 77 = .ok (.getfield 7, 3) := by decide +kernel
theorem dX8_count_80 : decode cX8_count 80 = .ok (.iconst 1, 1) := by decide +kernel
theorem dX8_count_81 : decode cX8_count 81 = .ok (.iaload, 1) := by decide +kernel
theorem dX8_count_82 : decode cX8_count 82 = .ok (.ireturn, 1) := by decide +kernel
theorem dX8_count_83 : decode cX8_count 83 = .ok (.aload_n 0, 1) := by decide +kernel
theorem dX8_count_84 : decode cX8_count 84 = .ok (.getfield 7, 3) := by decide +kernel
theorem dX8_count_87 : decode cX8_count 87 = .ok (.iconst 0, 1) := by decide +kernel
theorem dX8_count_88 : decode cX8_count 88 = .ok (.iaload, 1) := by decide +kernel
theorem dX8_count_89 : decode cX8_count 89 = .ok (.ireturn, 1) := by decide +kernel
theorem dX8_count_90 : decode cX8_count 90 = .ok (.aload_n 0, 1) := by decide +kernel
theorem dX8_count_91 : decode cX8_count 91 = .ok (.getfield 7, 3) := by decide +kernel
theorem dX8_count_94 : decode cX8_count 94 = .ok (.iconst 2, 1) := by decide +kernel
theorem dX8_count_95 : decode cX8_count 95 = .ok (.iaload, 1) := by decide +kernel
theorem dX8_count_96 : decode cX8_count 96 = .ok (.ireturn, 1) := by decide +kernel
theorem dX8_count_97 : decode cX8_count 97 = .ok (.aload_n 0, 1) := by decide +kernel
theorem dX8_count_98 : decode cX8_count 98 = .ok (.iconst 0, 1) := by decide +kernel
theorem dX8_count_99 : decode cX8_count 99 = .ok (.invokevirtual 207, 3) := by decide +kernel
theorem dX8_count_102 : decode cX8_count 102 = .ok (.ireturn, 1) := by decide +kernel
theorem dX8_count_103 : decode cX8_count 103 = .ok (.aload_n 0, 1) := by decide +kernel
theorem dX8_count_104 : decode cX8_count 104 = .ok (.getfield 148, 3) := by decide +kernel
theorem dX8_count_107 : decode cX8_count 107 = .ok (.ireturn, 1) := by decide +kernel
theorem dX8_count_108 : decode cX8_count 108 = .ok (.aload_n 0, 1) := by decide +kernel
theorem dX8_count_109 : decode cX8_count 109 = .ok (.getfield 77, 3) := by decide +kernel
theorem dX8_count_112 : decode cX8_count 112 = .ok (.ireturn, 1) := by decide +kernel
theorem dX8_count_113 : decode cX8_count 113 = .ok (.bipush (-3), 2) := by decide +kernel
theorem dX8_count_115 : decode cX8_count 115 = .ok (.ireturn, 1) := by decide +kernel
