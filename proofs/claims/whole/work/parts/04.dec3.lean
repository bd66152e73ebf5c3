theorem dX5_group_125 : decode cX5_group 125 = .ok (.iconst 0, 1) := by decide +kernel
theorem dX5_group_126 : decode cX5_group 126 = .ok (.invokevirtual 144, 3) := by decide +kernel
theorem dX5_group_129 : decode cX5_group 129 = .ok (.ifCond .eq 5, 3) := by decide +kernel
theorem dX5_group_132 : decode cX5_group 132 = .ok (.iconst 0, 1) := by decide +kernel
theorem dX5_group_133 : decode cX5_group 133 = .ok (.ireturn, 1) := by decide +kernel
theorem dX5_group_134 : decode cX5_group 134 = .ok (.iload_n 2, 1) := by decide +kernel
theorem dX5_group_135 : decode cX5_group 135 = .ok (.ifCond .ge 27, 3) := by decide +kernel
theorem dX5_group_138 : decode cX5_group 138 = .ok (.aload_n 0, 1) := by decide +kernel
theorem dX5_group_139 : decode cX5_group 139 = .ok (.getfield 59, 3) := by decide +kernel
theorem dX5_group_142 : decode cX5_group 142 = .ok (.iload_n 1, 1) := by decide +kernel
theorem dX5_group_143 : decode cX5_group 143 = .ok (.iconst 0, 1) := by decide +kernel
theorem dX5_group_144 : decode cX5_group 144 = .ok (.iastore, 1) := by decide +kernel
theorem dX5_group_145 : decode cX5_group 145 = .ok (.aload_n 0, 1) := by decide +kernel
theorem dX5_group_146 : decode cX5_group 146 = .ok (.getfield 62, 3) := by decide +kernel
theorem dX5_group_149 : decode cX5_group 149 = .ok (.iload_n 1, 1) := by decide +kernel
theorem dX5_group_150 : decode cX5_group 150 = .ok (.iload_n 3, 1) := by decide +kernel
theorem dX5_group_151 : decode cX5_group 151 = .ok (.iastore, 1) := by decide +kernel
theorem dX5_group_152 : decode cX5_group 152 = .ok (.aload_n 0, 1) := by decide +kernel
theorem dX5_group_153 : decode cX5_group 153 = .ok (.getfield 65, 3) := by decide +kernel
theorem dX5_group_156 : decode cX5_group 156 = .ok (.iload_n 1, 1) := by decide +kernel
theorem dX5_group_157 : decode cX5_group 157 = .ok (.iconst (-1), 1) := by decide +kernel
theorem dX5_group_158 : decode cX5_group 158 = .ok (.iastore, 1) := by decide +kernel
theorem dX5_group_159 : decode cX5_group 159 = .ok (.goto 30, 3) := by decide +kernel
theorem dX5_group_162 : decode cX5_group 162 = .ok (.aload_n 0, 1) := by decide +kernel
theorem dX5_group_163 : decode cX5_group 163 = .ok (.getfield 56, 3) := by decide +kernel
theorem dX5_group_166 : decode cX5_group 166 = .ok (.bipush 6, 2) := by decide +kernel
theorem dX5_group_168 : decode cX5_group 168 = .ok (.iload_n 1, 1) := by decide +kernel
theorem dX5_group_169 : decode cX5_group 169 = .ok (.imul, 1) := by decide +kernel
theorem dX5_group_170 : decode cX5_group 170 = .ok (.aload_n 0, 1) := by decide +kernel
theorem dX5_group_171 : decode cX5_group 171 = .ok (.getfield 59, 3) := by decide +kernel
theorem dX5_group_174 : decode cX5_group 174 = .ok (.iload_n 1, 1) := by decide +kernel
theorem dX5_group_175 : decode cX5_group 175 = .ok (.iaload, 1) := by decide +kernel
theorem dX5_group_176 : decode cX5_group 176 = .ok (.iadd, 1) := by decide +kernel
theorem dX5_group_177 : decode cX5_group 177 = .ok (.iload_n 2, 1) := by decide +kernel
theorem dX5_group_178 : decode cX5_group 178 = .ok (.iastore, 1) := by decide +kernel
theorem dX5_group_179 : decode cX5_group 179 = .ok (.aload_n 0, 1) := by decide +kernel
theorem dX5_group_180 : decode cX5_group 180 = .ok (.getfield 59, 3) := by decide +kernel
theorem dX5_group_183 : decode cX5_group 183 = .ok (.iload_n 1, 1) := by decide +kernel
theorem dX5_group_184 : decode cX5_group 184 = .ok (.dup2, 1) := by decide +kernel
theorem dX5_group_185 : decode cX5_group 185 = .ok (.iaload, 1) := by decide +kernel
theorem dX5_group_186 : decode cX5_group 186 = .ok (.iconst 1, 1) := by decide +kernel
theorem dX5_group_187 : decode cX5_group 187 = .ok (.iadd, 1) := by decide +kernel
theorem dX5_group_188 : decode cX5_group 188 = .ok (.iastore, 1) := by decide +kernel
theorem dX5_group_189 : decode cX5_group 189 = .ok (.aload_n 0, 1) := by decide +kernel
theorem dX5_group_190 : decode cX5_group 190 = .ok (.getfield 59, 3) := by decide +kernel
theorem dX5_group_193 : decode cX5_group 193 = .ok (.iload_n 1, 1) := by decide +kernel
theorem dX5_group_194 : decode cX5_group 194 = .ok (.iaload, 1) := by decide +kernel
theorem dX5_group_195 : decode cX5_group 195 = .ok (.ireturn, 1) := by decide +kernel
set_option maxRecDepth 20000 in
theorem ggX5_slot_X5_in : GoodIn wsX5_slot wsX5_in := goodIn_r _ [5] (by decide +kernel) (by decide +kernel)
set_option maxRecDepth 20000 in
theorem gX5_slot_X5_in : GoodIn wsX5_slot (va_wsS RX5 75 yX5_in wsX5_in) := goodIn_app (goodIn_of _ (by decide +kernel)) ggX5_slot_X5_in
set_option maxRecDepth 20000 in
theorem ggX5_slot_X5_throwing : GoodIn wsX5_slot wsX5_throwing := goodIn_r _ [9, 10, 11, 12, 13, 14, 15, 16, 17, 18, 19, 20, 21, 22, 23, 24, 25, 26, 27, 28, 29, 30, 31, 32, 33, 34, 35] (by decide +kernel) (by decide +kernel)
set_option maxRecDepth 20000 in
theorem gX5_slot_X5_throwing : GoodIn wsX5_slot (wsV RX5 144 RX5 yX5_throwing wsX5_throwing) := goodIn_app (goodIn_of _ (by decide +kernel)) ggX5_slot_X5_throwing
theorem dX5_slot_0 : decode cX5_slot 0 = .ok (.iload_n 1, 1) := by decide +kernel
theorem dX5_slot_1 : decode cX5_slot 1 = .ok (.iconst 0, 1) := by decide +kernel
theorem dX5_slot_2 : decode cX5_slot 2 = .ok (.iconst 3, 1) := by decide +kernel
theorem dX5_slot_3 : decode cX5_slot 3 = .ok (.invokestatic 75, 3) := by decide +kernel
theorem dX5_slot_6 : decode cX5_slot 6 = .ok (.ifCond .eq 13, 3) := by decide +kernel
theorem dX5_slot_9 : decode cX5_slot 9 = .ok (.iload_n 2, 1) := by decide +kernel
theorem dX5_slot_10 : decode cX5_slot 10 = .ok (.iconst 0, 1) := by decide +kernel
theorem dX5_slot_11 : decode cX5_slot 11 = .ok (.bipush 7, 2) := by decide +kernel
theorem dX5_slot_13 : decode cX5_slot 13 = .ok (.invokestatic 75, 3) := by decide +kernel
theorem dX5_slot_16 : decode cX5_slot 16 = .ok (.ifCond .ne 7, 3) := by decide +kernel
theorem dX5_slot_19 : decode cX5_slot 19 = .ok (.iconst 1, 1) := by decide +kernel
theorem dX5_slot_20 : decode cX5_slot 20 = .ok (.goto 4, 3) := by decide +kernel
theorem dX5_slot_23 : decode cX5_slot 23 = .ok (.iconst 0, 1) := by decide +kernel
theorem dX5_slot_24 : decode cX5_slot 24 = .ok (.istore 4, 2) := by decide +kernel
theorem dX5_slot_26 : decode cX5_slot 26 = .ok (.aload_n 0, 1) := by decide +kernel
theorem dX5_slot_27 : decode cX5_slot 27 = .ok (.iload 4, 2) := by decide +kernel
theorem dX5_slot_29 : decode cX5_slot 29 = .ok (.iload 4, 2) := by decide +kernel
theorem dX5_slot_31 : decode cX5_slot 31 = .ok (.ifCond .ne 21, 3) := by decide +kernel
theorem dX5_slot_34 : decode cX5_slot 34 = .ok (.aload_n 0, 1) := by decide +kernel
theorem dX5_slot_35 : decode cX5_slot 35 = .ok (.getfield 53, 3) := by decide +kernel
theorem dX5_slot_38 : decode cX5_slot 38 = .ok (.bipush 8, 2) := by decide +kernel
theorem dX5_slot_40 : decode cX5_slot 40 = .ok (.iload_n 1, 1) := by decide +kernel
theorem dX5_slot_41 : decode cX5_slot 41 = .ok (.imul, 1) := by decide +kernel
theorem dX5_slot_42 : decode cX5_slot 42 = .ok (.iload_n 2, 1) := by decide +kernel
theorem dX5_slot_43 : decode cX5_slot 43 = .ok (.iadd, 1) := by decide +kernel
theorem dX5_slot_44 : decode cX5_slot 44 = .ok (.iaload, 1) := by decide +kernel
theorem dX5_slot_45 : decode cX5_slot 45 = .ok (.ifCond .lt 7, 3) := by decide +kernel
theorem dX5_slot_48 : decode cX5_slot 48 = .ok (.iconst 1, 1) := by decide +kernel
theorem dX5_slot_49 : decode cX5_slot 49 = .ok (.goto 4, 3) := by decide +kernel
theorem dX5_slot_52 : decode cX5_slot 52 = .ok (.iconst 0, 1) := by decide +kernel
theorem dX5_slot_53 : decode cX5_slot 53 = .ok (.invokevirtual 144, 3) := by decide +kernel
theorem dX5_slot_56 : decode cX5_slot 56 = .ok (.ifCond .eq 4, 3) := by decide +kernel
theorem dX5_slot_59 : decode cX5_slot 59 = .ok (.return_, 1) := by decide +kernel
theorem dX5_slot_60 : decode cX5_slot 60 = .ok (.aload_n 0, 1) := by decide +kernel
theorem dX5_slot_61 : decode cX5_slot 61 = .ok (.getfield 53, 3) := by decide +kernel
theorem dX5_slot_64 : decode cX5_slot 64 = .ok (.bipush 8, 2) := by decide +kernel
theorem dX5_slot_66 : decode cX5_slot 66 = .ok (.iload_n 1, 1) := by decide +kernel
theorem dX5_slot_67 : decode cX5_slot 67 = .ok (.imul, 1) := by decide +kernel
theorem dX5_slot_68 : decode cX5_slot 68 = .ok (.iload_n 2, 1) := by decide +kernel
theorem dX5_slot_69 : decode cX5_slot 69 = .ok (.iadd, 1) := by decide +kernel
theorem dX5_slot_70 : decode cX5_slot 70 = .ok (.iload_n 3, 1) := by decide +kernel
theorem dX5_slot_71 : decode cX5_slot 71 = .ok (.ifCond .eq 7, 3) := by decide +kernel
theorem dX5_slot_74 : decode cX5_slot 74 = .ok (.iconst (-1), 1) := by decide +kernel
theorem dX5_slot_75 : decode cX5_slot 75 = .ok (.goto 5, 3) := by decide +kernel
theorem dX5_slot_78 : decode cX5_slot 78 = .ok (.bipush (-2), 2) := by decide +kernel
theorem dX5_slot_80 : decode cX5_slot 80 = .ok (.iastore, 1) := by decide +kernel
theorem dX5_slot_81 : decode cX5_slot 81 = .ok (.return_, 1) := by decide +kernel
set_option maxRecDepth 20000 in
theorem ggX5_carries_X5_in : GoodIn wsX5_carries wsX5_in := goodIn_r _ [5] (by decide +kernel) (by decide +kernel)
set_option maxRecDepth 20000 in
theorem gX5_carries_X5_in : GoodIn wsX5_carries (va_wsS RX5 75 yX5_in wsX5_in) := goodIn_app (goodIn_of _ (by decide +kernel)) ggX5_carries_X5_in
set_option maxRecDepth 20000 in
theorem ggX5_carries_X5_throwing : GoodIn wsX5_carries wsX5_throwing := goodIn_r _ [9, 10, 11, 12, 13, 14, 15, 16, 17, 18, 19, 20, 21, 22, 23, 24, 25, 26, 27, 28, 29, 30, 31, 32, 33, 34, 35] (by decide +kernel) (by decide +kernel)
set_option maxRecDepth 20000 in
theorem gX5_carries_X5_throwing : GoodIn wsX5_carries (wsV RX5 144 RX5 yX5_throwing wsX5_throwing) := goodIn_app (goodIn_of _ (by decide +kernel)) ggX5_carries_X5_throwing
theorem dX5_carries_0 : decode cX5_carries 0 = .ok (.aload_n 0, 1) := by decide +kernel
theorem dX5_carries_1 : decode cX5_carries 1 = .ok (.iload_n 1, 1) := by decide +kernel
theorem dX5_carries_2 : decode cX5_carries 2 = .ok (.iconst 0, 1) := by decide +kernel
theorem dX5_carries_3 : decode cX5_carries 3 = .ok (.iconst 3, 1) := by decide +kernel
theorem dX5_carries_4 : decode cX5_carries 4 = .ok (.invokestatic 75, 3) := by decide +kernel
theorem dX5_carries_7 : decode cX5_carries 7 = .ok (.ifCond .eq 13, 3) := by decide +kernel
theorem dX5_carries_10 : decode cX5_carries 10 = .ok (.iload_n 2, 1) := by decide +kernel
theorem dX5_carries_11 : decode cX5_carries 11 = .ok (.iconst 0, 1) := by decide +kernel
theorem dX5_carries_12 : decode cX5_carries 12 = .ok (.bipush 7, 2) := by decide +kernel
theorem dX5_carries_14 : decode cX5_carries 14 = .ok (.invokestatic 75, 3) := by decide +kernel
theorem dX5_carries_17 : decode cX5_carries 17 = .ok (.ifCond .ne 7, 3) := by decide +kernel
theorem dX5_carries_20 : decode cX5_carries 20 = .ok (.iconst 1, 1) := by decide +kernel
theorem dX5_carries_21 : decode cX5_carries 21 = .ok (.goto 4, 3) := by decide +kernel
theorem dX5_carries_24 : decode cX5_carries 24 = .ok (.iconst 0, 1) := by decide +kernel
theorem dX5_carries_25 : decode cX5_carries 25 = .ok (.iconst 0, 1) := by decide +kernel
theorem dX5_carries_26 : decode cX5_carries 26 = .ok (.invokevirtual 144, 3) := by decide +kernel
theorem dX5_carries_29 : decode cX5_carries 29 = .ok (.ifCond .eq 5, 3) := by decide +kernel
theorem dX5_carries_32 : decode cX5_carries 32 = .ok (.iconst 0, 1) := by decide +kernel
theorem dX5_carries_33 : decode cX5_carries 33 = .ok (.ireturn, 1) := by decide +kernel
theorem dX5_carries_34 : decode cX5_carries 34 = .ok (.aload_n 0, 1) := by decide +kernel
theorem dX5_carries_35 : decode cX5_carries 35 = .ok (.getfield 53, 3) := by decide +kernel
theorem dX5_carries_38 : decode cX5_carries 38 = .ok (.bipush 8, 2) := by decide +kernel
theorem dX5_carries_40 : decode cX5_carries 40 = .ok (.iload_n 1, 1) := by decide +kernel
theorem dX5_carries_41 : decode cX5_carries 41 = .ok (.imul, 1) := by decide +kernel
theorem dX5_carries_42 : decode cX5_carries 42 = .ok (.iload_n 2, 1) := by decide +kernel
theorem dX5_carries_43 : decode cX5_carries 43 = .ok (.iadd, 1) := by decide +kernel
theorem dX5_carries_44 : decode cX5_carries 44 = .ok (.iaload, 1) := by decide +kernel
theorem dX5_carries_45 : decode cX5_carries 45 = .ok (.ireturn, 1) := by decide +kernel
theorem dX5_ringer_0 : decode cX5_ringer 0 = .ok (.iconst 0, 1) := by decide +kernel
theorem dX5_ringer_1 : decode cX5_ringer 1 = .ok (.istore_n 2, 1) := by decide +kernel
theorem dX5_ringer_2 : decode cX5_ringer 2 = .ok (.iload_n 2, 1) := by decide +kernel
theorem dX5_ringer_3 : decode cX5_ringer 3 = .ok (.bipush 24, 2) := by decide +kernel
theorem dX5_ringer_5 : decode cX5_ringer 5 = .ok (.if_icmp .ge 31, 3) := by decide +kernel
theorem dX5_ringer_8 : decode cX5_ringer 8 = .ok (.aload_n 0, 1) := by decide +kernel
theorem dX5_ringer_9 : decode cX5_ringer 9 = .ok (.getfield 7, 3) := by decide +kernel
theorem dX5_ringer_12 : decode cX5_ringer 12 = .ok (.iload_n 2, 1) := by decide +kernel
theorem dX5_ringer_13 : decode cX5_ringer 13 = .ok (.iaload, 1) := by decide +kernel
theorem dX5_ringer_14 : decode cX5_ringer 14 = .ok (.iconst 4, 1) := by decide +kernel
theorem dX5_ringer_15 : decode cX5_ringer 15 = .ok (.if_icmp .ne 15, 3) := by decide +kernel
theorem dX5_ringer_18 : decode cX5_ringer 18 = .ok (.aload_n 0, 1) := by decide +kernel
theorem dX5_ringer_19 : decode cX5_ringer 19 = .ok (.getfield 22, 3) := by decide +kernel
theorem dX5_ringer_22 : decode cX5_ringer 22 = .ok (.iload_n 2, 1) := by decide +kernel
theorem dX5_ringer_23 : decode cX5_ringer 23 = .ok (.iaload, 1) := by decide +kernel
theorem dX5_ringer_24 : decode cX5_ringer 24 = .ok (.iload_n 1, 1) := by decide +kernel
theorem dX5_ringer_25 : decode cX5_ringer 25 = .ok (.if_icmp .ne 5, 3) := by decide +kernel
theorem dX5_ringer_28 : decode cX5_ringer 28 = .ok (.iload_n 2, 1) := by decide +kernel
theorem dX5_ringer_29 : decode cX5_ringer 29 = .ok (.ireturn, 1) := by decide +kernel
theorem dX5_ringer_30 : decode cX5_ringer 30 = .ok (.iinc 2 1, 3) := by decide +kernel
theorem dX5_ringer_33 : decode cX5_ringer 33 = .ok (.goto (-31), 3) := by decide +kernel
theorem dX5_ringer_36 : decode cX5_ringer 36 = .ok (.iconst (-1), 1) := by decide +kernel
theorem dX5_ringer_37 : decode cX5_ringer 37 = .ok (.ireturn, 1) := by decide +kernel
set_option maxRecDepth 20000 in
theorem ggX5_line_X5_isLine : GoodIn wsX5_line wsX5_isLine := goodIn_r _ [11, 12, 13, 10, 14] (by decide +kernel) (by decide +kernel)
set_option maxRecDepth 20000 in
theorem gX5_line_X5_isLine : GoodIn wsX5_line (va_wsS RX5 140 yX5_isLine wsX5_isLine) := goodIn_app (goodIn_of _ (by decide +kernel)) ggX5_line_X5_isLine
set_option maxRecDepth 20000 in
theorem ggX5_line_X5_in : GoodIn wsX5_line wsX5_in := goodIn_r _ [14] (by decide +kernel) (by decide +kernel)
set_option maxRecDepth 20000 in
theorem gX5_line_X5_in : GoodIn wsX5_line (va_wsS RX5 75 yX5_in wsX5_in) := goodIn_app (goodIn_of _ (by decide +kernel)) ggX5_line_X5_in
set_option maxRecDepth 20000 in
theorem ggX5_line_X5_throwing : GoodIn wsX5_line wsX5_throwing := goodIn_r _ [18, 19, 30, 31, 32, 33, 34, 35, 36, 37, 38, 39, 40, 41, 42, 43, 44, 45, 46, 47, 48, 49, 50, 51, 52, 53, 54] (by decide +kernel) (by decide +kernel)
set_option maxRecDepth 20000 in
theorem gX5_line_X5_throwing : GoodIn wsX5_line (wsV RX5 144 RX5 yX5_throwing wsX5_throwing) := goodIn_app (goodIn_of _ (by decide +kernel)) ggX5_line_X5_throwing
set_option maxRecDepth 20000 in
theorem ggX5_line_X5_ringer : GoodIn wsX5_line wsX5_ringer := goodIn_r _ [23, 1, 2, 30, 31, 32, 33, 34, 35, 36, 37, 38, 39, 40, 41, 42, 43, 44, 45, 46, 47, 48, 49, 50, 51, 52, 53, 54] (by decide +kernel) (by decide +kernel)
set_option maxRecDepth 20000 in
theorem gX5_line_X5_ringer : GoodIn wsX5_line (wsV RX5 163 RX5 yX5_ringer wsX5_ringer) := goodIn_app (goodIn_of _ (by decide +kernel)) ggX5_line_X5_ringer
set_option maxRecDepth 20000 in
theorem ggX5_line_X5_unitsOf : GoodIn wsX5_line wsX5_unitsOf := goodIn_r _ [27, 28, 29, 30, 31, 32, 33, 34, 35, 36, 37, 38, 39, 40, 41, 42, 43, 44, 45, 46, 47, 48, 49, 50, 51, 52, 53, 54] (by decide +kernel) (by decide +kernel)
set_option maxRecDepth 20000 in
theorem gX5_line_X5_unitsOf : GoodIn wsX5_line (wsV RX5 100 RX5 yX5_unitsOf wsX5_unitsOf) := goodIn_app (goodIn_of _ (by decide +kernel)) ggX5_line_X5_unitsOf
theorem dX5_line_0 : decode cX5_line 0 = .ok (.aload_n 0, 1) := by decide +kernel
theorem dX5_line_1 : decode cX5_line 1 = .ok (.iload_n 1, 1) := by decide +kernel
theorem dX5_line_2 : decode cX5_line 2 = .ok (.invokestatic 140, 3) := by decide +kernel
theorem dX5_line_5 : decode cX5_line 5 = .ok (.ifCond .eq 12, 3) := by decide +kernel
theorem dX5_line_8 : decode cX5_line 8 = .ok (.iload_n 2, 1) := by decide +kernel
theorem dX5_line_9 : decode cX5_line 9 = .ok (.iconst 0, 1) := by decide +kernel
theorem dX5_line_10 : decode cX5_line 10 = .ok (.iconst 5, 1) := by decide +kernel
theorem dX5_line_11 : decode cX5_line 11 = .ok (.invokestatic 75, 3) := by decide +kernel
theorem dX5_line_14 : decode cX5_line 14 = .ok (.ifCond .ne 7, 3) := by decide +kernel
theorem dX5_line_17 : decode cX5_line 17 = .ok (.iconst 1, 1) := by decide +kernel
theorem dX5_line_18 : decode cX5_line 18 = .ok (.goto 4, 3) := by decide +kernel
theorem dX5_line_21 : decode cX5_line 21 = .ok (.iconst 0, 1) := by decide +kernel
theorem dX5_line_22 : decode cX5_line 22 = .ok (.iconst 0, 1) := by decide +kernel
theorem dX5_line_23 : decode cX5_line 23 = .ok (.invokevirtual 144, 3) := by decide +kernel
theorem dX5_line_26 : decode cX5_line 26 = .ok (.ifCond .eq 5, 3) := by decide +kernel
theorem dX5_line_29 : decode cX5_line 29 = .ok (.iconst 0, 1) := by decide +kernel
theorem dX5_line_30 : decode cX5_line 30 = .ok (.ireturn, 1) := by decide +kernel
theorem dX5_line_31 : decode cX5_line 31 = .ok (.aload_n 0, 1) := by decide +kernel
theorem dX5_line_32 : decode cX5_line 32 = .ok (.getfield 7, 3) := by decide +kernel
theorem dX5_line_35 : decode cX5_line 35 = .ok (.iload_n 1, 1) := by decide +kernel
theorem dX5_line_36 : decode cX5_line 36 = .ok (.iaload, 1) := by decide +kernel
theorem dX5_line_37 : decode cX5_line 37 = .ok (.iconst 3, 1) := by decide +kernel
theorem dX5_line_38 : decode cX5_line 38 = .ok (.if_icmp .ne 11, 3) := by decide +kernel
theorem dX5_line_41 : decode cX5_line 41 = .ok (.aload_n 0, 1) := by decide +kernel
theorem dX5_line_42 : decode cX5_line 42 = .ok (.iload_n 1, 1) := by decide +kernel
theorem dX5_line_43 : decode cX5_line 43 = .ok (.invokevirtual 163, 3) := by decide +kernel
theorem dX5_line_46 : decode cX5_line 46 = .ok (.goto 4, 3) := by decide +kernel
theorem dX5_line_49 : decode cX5_line 49 = .ok (.iconst (-1), 1) := by decide +kernel
theorem dX5_line_50 : decode cX5_line 50 = .ok (.istore_n 3, 1) := by decide +kernel
theorem dX5_line_51 : decode cX5_line 51 = .ok (.iload_n 2, 1) := by decide +kernel
theorem dX5_line_52 : decode cX5_line 52 = .ok (.tableswitch 136 0 4 #[36, 43, 64, 84, 121], 36) := by decide +kernel
theorem dX5_line_88 : decode cX5_line 88 = .ok (.aload_n 0, 1) := by decide +kernel
theorem dX5_line_89 : decode cX5_line 89 = .ok (.getfield 7, 3) := by decide +kernel
theorem dX5_line_92 : decode cX5_line 92 = .ok (.iload_n 1, 1) := by decide +kernel
theorem dX5_line_93 : decode cX5_line 93 = .ok (.iaload, 1) := by decide +kernel
theorem dX5_line_94 : decode cX5_line 94 = .ok (.ireturn, 1) := by decide +kernel
theorem dX5_line_95 : decode cX5_line 95 = .ok (.aload_n 0, 1) := by decide +kernel
theorem dX5_line_96 : decode cX5_line 96 = .ok (.getfield 7, 3) := by decide +kernel
theorem dX5_line_99 : decode cX5_line 99 = .ok (.iload_n 1, 1) := by decide +kernel
theorem dX5_line_100 : decode cX5_line 100 = .ok (.iaload, 1) := by decide +kernel
theorem dX5_line_101 : decode cX5_line 101 = .ok (.iconst 3, 1) := by decide +kernel
theorem dX5_line_102 : decode cX5_line 102 = .ok (.if_icmp .ne 7, 3) := by decide +kernel
theorem dX5_line_105 : decode cX5_line 105 = .ok (.iload_n 3, 1) := by decide +kernel
theorem dX5_line_106 : decode cX5_line 106 = .ok (.goto 9, 3) := by decide +kernel
theorem dX5_line_109 : decode cX5_line 109 = .ok (.aload_n 0, 1) := by decide +kernel
theorem dX5_line_110 : decode cX5_line 110 = .ok (.getfield 22, 3) := by decide +kernel
theorem dX5_line_113 : decode cX5_line 113 = .ok (.iload_n 1, 1) := by decide +kernel
theorem dX5_line_114 : decode cX5_line 114 = .ok (.iaload, 1) := by decide +kernel
theorem dX5_line_115 : decode cX5_line 115 = .ok (.ireturn, 1) := by decide +kernel
theorem dX5_line_116 : decode cX5_line 116 = .ok (.iload_n 3, 1) := by decide +kernel
theorem dX5_line_117 : decode cX5_line 117 = .ok (.ifCond .lt 12, 3) := by decide +kernel
theorem dX5_line_120 : decode cX5_line 120 = .ok (.aload_n 0, 1) := by decide +kernel
theorem dX5_line_121 : decode cX5_line 121 = .ok (.getfield 25, 3) := by decide +kernel
theorem dX5_line_124 : decode cX5_line 124 = .ok (.iload_n 3, 1) := by decide +kernel
theorem dX5_line_125 : decode cX5_line 125 = .ok (.iaload, 1) := by decide +kernel
theorem dX5_line_126 : decode cX5_line 126 = .ok (.goto 9, 3) := by decide +kernel
theorem dX5_line_129 : decode cX5_line 129 = .ok (.aload_n 0, 1) := by decide +kernel
theorem dX5_line_130 : decode cX5_line 130 = .ok (.getfield 25, 3) := by decide +kernel
theorem dX5_line_133 : decode cX5_line 133 = .ok (.iload_n 1, 1) := by decide +kernel
theorem dX5_line_134 : decode cX5_line 134 = .ok (.iaload, 1) := by decide +kernel
theorem dX5_line_135 : decode cX5_line 135 = .ok (.ireturn, 1) := by decide +kernel
theorem dX5_line_136 : decode cX5_line 136 = .ok (.aload_n 0, 1) := by decide +kernel
theorem dX5_line_137 : decode cX5_line 137 = .ok (.getfield 38, 3) := by decide +kernel
theorem dX5_line_140 : decode cX5_line 140 = .ok (.iload_n 1, 1) := by decide +kernel
theorem dX5_line_141 : decode cX5_line 141 = .ok (.iaload, 1) := by decide +kernel
theorem dX5_line_142 : decode cX5_line 142 = .ok (.aload_n 0, 1) := by decide +kernel
theorem dX5_line_143 : decode cX5_line 143 = .ok (.getfield 7, 3) := by decide +kernel
theorem dX5_line_146 : decode cX5_line 146 = .ok (.iload_n 1, 1) := by decide +kernel
theorem dX5_line_147 : decode cX5_line 147 = .ok (.iaload, 1) := by decide +kernel
theorem dX5_line_148 : decode cX5_line 148 = .ok (.bipush 6, 2) := by decide +kernel
theorem dX5_line_150 : decode cX5_line 150 = .ok (.if_icmp .ne 20, 3) := by decide +kernel
theorem dX5_line_153 : decode cX5_line 153 = .ok (.aload_n 0, 1) := by decide +kernel
theorem dX5_line_154 : decode cX5_line 154 = .ok (.getfield 41, 3) := by decide +kernel
theorem dX5_line_157 : decode cX5_line 157 = .ok (.iload_n 1, 1) := by decide +kernel
theorem dX5_line_158 : decode cX5_line 158 = .ok (.baload, 1) := by decide +kernel
theorem dX5_line_159 : decode cX5_line 159 = .ok (.ifCond .eq 11, 3) := by decide +kernel
theorem dX5_line_162 : decode cX5_line 162 = .ok (.aload_n 0, 1) := by decide +kernel
theorem dX5_line_163 : decode cX5_line 163 = .ok (.iload_n 1, 1) := by decide +kernel
theorem dX5_line_164 : decode cX5_line 164 = .ok (.invokevirtual 100, 3) := by decide +kernel
theorem dX5_line_167 : decode cX5_line 167 = .ok (.goto 4, 3) := by decide +kernel
theorem dX5_line_170 : decode cX5_line 170 = .ok (.iconst 0, 1) := by decide +kernel
theorem dX5_line_171 : decode cX5_line 171 = .ok (.iadd, 1) := by decide +kernel
theorem dX5_line_172 : decode cX5_line 172 = .ok (.ireturn, 1) := by decide +kernel
theorem dX5_line_173 : decode cX5_line 173 = .ok (.aload_n 0, 1) := by decide +kernel
theorem dX5_line_174 : decode cX5_line 174 = .ok (.getfield 34, 3) := by decide +kernel
theorem dX5_line_177 : decode cX5_line 177 = .ok (.iload_n 1, 1) := by decide +kernel
theorem dX5_line_178 : decode cX5_line 178 = .ok (.baload, 1) := by decide +kernel
theorem dX5_line_179 : decode cX5_line 179 = .ok (.ifCond .eq 7, 3) := by decide +kernel
theorem dX5_line_182 : decode cX5_line 182 = .ok (.iconst 1, 1) := by decide +kernel
theorem dX5_line_183 : decode cX5_line 183 = .ok (.goto 4, 3) := by decide +kernel
theorem dX5_line_186 : decode cX5_line 186 = .ok (.iconst 0, 1) := by decide +kernel
theorem dX5_line_187 : decode cX5_line 187 = .ok (.ireturn, 1) := by decide +kernel
theorem dX5_line_188 : decode cX5_line 188 = .ok (.aload_n 0, 1) := by decide +kernel
theorem dX5_line_189 : decode cX5_line 189 = .ok (.getfield 47, 3) := by decide +kernel
theorem dX5_line_192 : decode cX5_line 192 = .ok (.iload_n 1, 1) := by decide +kernel
theorem dX5_line_193 : decode cX5_line 193 = .ok (.iaload, 1) := by decide +kernel
theorem dX5_line_194 : decode cX5_line 194 = .ok (.ireturn, 1) := by decide +kernel
set_option maxRecDepth 20000 in
theorem ggX5_count_X5_in : GoodIn wsX5_count wsX5_in := goodIn_r _ [7] (by decide +kernel) (by decide +kernel)
set_option maxRecDepth 20000 in
theorem gX5_count_X5_in : GoodIn wsX5_count (va_wsS RX5 75 yX5_in wsX5_in) := goodIn_app (goodIn_of _ (by decide +kernel)) ggX5_count_X5_in
set_option maxRecDepth 20000 in
theorem ggX5_count_X5_throwing : GoodIn wsX5_count wsX5_throwing := goodIn_r _ [11, 12, 13, 14, 15, 16, 17, 18, 19, 20, 21, 22, 23, 24, 25, 26, 27, 28, 29, 30, 31, 32, 33, 34, 35, 36, 37] (by decide +kernel) (by decide +kernel)
set_option maxRecDepth 20000 in
theorem gX5_count_X5_throwing : GoodIn wsX5_count (wsV RX5 144 RX5 yX5_throwing wsX5_throwing) := goodIn_app (goodIn_of _ (by decide +kernel)) ggX5_count_X5_throwing
theorem dX5_count_0 : decode cX5_count 0 = .ok (.aload_n 0, 1) := by decide +kernel
theorem dX5_count_1 : decode cX5_count 1 = .ok (.iload_n 1, 1) := by decide +kernel
theorem dX5_count_2 : decode cX5_count 2 = .ok (.iconst 0, 1) := by decide +kernel
theorem dX5_count_3 : decode cX5_count 3 = .ok (.iconst 2, 1) := by decide +kernel
theorem dX5_count_4 : decode cX5_count 4 = .ok (.invokestatic 75, 3) := by decide +kernel
theorem dX5_count_7 : decode cX5_count 7 = .ok (.ifCond .ne 7, 3) := by decide +kernel
theorem dX5_count_10 : decode cX5_count 10 = .ok (.iconst 1, 1) := by decide +kernel
theorem dX5_count_11 : decode cX5_count 11 = .ok (.goto 4, 3) := by decide +kernel
theorem dX5_count_14 : decode cX5_count 14 = .ok (.iconst 0, 1) := by decide +kernel
theorem dX5_count_15 : decode cX5_count 15 = .ok (.iconst 0, 1) := by decide +kernel
theorem dX5_count_16 : decode cX5_count 16 = .ok (.invokevirtual 144, 3) := by decide +kernel
theorem dX5_count_19 : decode cX5_count 19 = .ok (.ifCond .eq 5, 3) := by decide +kernel
theorem dX5_count_22 : decode cX5_count 22 = .ok (.iconst 0, 1) := by decide +kernel
theorem dX5_count_23 : decode cX5_count 23 = .ok (.ireturn, 1) := by decide +kernel
theorem dX5_count_24 : decode cX5_count 24 = .ok (.iconst 0, 1) := by decide +kernel
theorem dX5_count_25 : decode cX5_count 25 = .ok (.istore_n 2, 1) := by decide +kernel
theorem dX5_count_26 : decode cX5_count 26 = .ok (.iconst 0, 1) := by decide +kernel
theorem dX5_count_27 : decode cX5_count 27 = .ok (.istore_n 3, 1) := by decide +kernel
theorem dX5_count_28 : decode cX5_count 28 = .ok (.iload_n 3, 1) := by decide +kernel
theorem dX5_count_29 : decode cX5_count 29 = .ok (.bipush 32, 2) := by decide +kernel
theorem dX5_count_31 : decode cX5_count 31 = .ok (.if_icmp .ge 26, 3) := by decide +kernel
theorem dX5_count_34 : decode cX5_count 34 = .ok (.iload_n 2, 1) := by decide +kernel
theorem dX5_count_35 : decode cX5_count 35 = .ok (.aload_n 0, 1) := by decide +kernel
theorem dX5_count_36 : decode cX5_count 36 = .ok (.getfield 53, 3) := by decide +kernel
theorem dX5_count_39 : decode cX5_count 39 = .ok (.iload_n 3, 1) := by decide +kernel
theorem dX5_count_40 : decode cX5_count 40 = .ok (.iaload, 1) := by decide +kernel
theorem dX5_count_41 : decode cX5_count 41 = .ok (.ifCond .lt 7, 3) := by decide +kernel
theorem dX5_count_44 : decode cX5_count 44 = .ok (.iconst 1, 1) := by decide +kernel
theorem dX5_count_45 : decode cX5_count 45 = .ok (.goto 4, 3) := by decide +kernel
theorem dX5_count_48 : decode cX5_count 48 = .ok (.iconst 0, 1) := by decide +kernel
theorem dX5_count_49 : decode cX5_count 49 = .ok (.iadd, 1) := by decide +kernel
theorem dX5_count_50 : decode cX5_count 50 = .ok (.istore_n 2, 1) := by decide +kernel
theorem dX5_count_51 : decode cX5_count 51 = .ok (.iinc 3 1, 3) := by decide +kernel
theorem dX5_count_54 : decode cX5_count 54 = .ok (.goto (-26), 3) := by decide +kernel
theorem dX5_count_57 : decode cX5_count 57 = .ok (.iload_n 1, 1) := by decide +kernel
theorem dX5_count_58 : decode cX5_count 58 = .ok (.ifCond .ne 10, 3) := by decide +kernel
theorem dX5_count_61 : decode cX5_count 61 = .ok (.aload_n 0, 1) := by decide +kernel
theorem dX5_count_62 : decode cX5_count 62 = .ok (.getfield 123, 3) := by decide +kernel
theorem dX5_count_65 : decode cX5_count 65 = .ok (.goto 16, 3) := by decide +kernel
theorem dX5_count_68 : decode cX5_count 68 = .ok (.iload_n 1, 1) := by decide +kernel
theorem dX5_count_69 : decode cX5_count 69 = .ok (.iconst 1, 1) := by decide +kernel
theorem dX5_count_70 : decode cX5_count 70 = .ok (.if_icmp .ne 10, 3) := by decide +kernel
theorem dX5_count_73 : decode cX5_count 73 = .ok (.aload_n 0, 1) := by decide +kernel
theorem dX5_count_74 : decode cX5_count 74 = .ok (.getfield 97, 3) := by decide +kernel
theorem dX5_count_77 : decode cX5_count 77 = .ok (.goto 4, 3) := by decide +kernel
theorem dX5_count_80 : decode cX5_count 80 = .ok (.iload_n 2, 1) := by decide +kernel
theorem dX5_count_81 : decode cX5_count 81 = .ok (.ireturn, 1) := by decide +kernel
set_option maxRecDepth 20000 in
theorem ggX5_book_X5_in : GoodIn wsX5_book wsX5_in := goodIn_r _ [6] (by decide +kernel) (by decide +kernel)
set_option maxRecDepth 20000 in
theorem gX5_book_X5_in : GoodIn wsX5_book (va_wsS RX5 75 yX5_in wsX5_in) := goodIn_app (goodIn_of _ (by decide +kernel)) ggX5_book_X5_in
set_option maxRecDepth 20000 in
theorem ggX5_book_X5_throwing : GoodIn wsX5_book wsX5_throwing := goodIn_r _ [10, 11, 12, 13, 14, 15, 16, 17, 18, 19, 20, 21, 22, 23, 24, 25, 26, 27, 28, 29, 30, 31, 32, 33, 34, 35, 36] (by decide +kernel) (by decide +kernel)
set_option maxRecDepth 20000 in
theorem gX5_book_X5_throwing : GoodIn wsX5_book (wsV RX5 144 RX5 yX5_throwing wsX5_throwing) := goodIn_app (goodIn_of _ (by decide +kernel)) ggX5_book_X5_throwing
theorem dX5_book_0 : decode cX5_book 0 = .ok (.iload_n 2, 1) := by decide +kernel
theorem dX5_book_1 : decode cX5_book 1 = .ok (.iconst 0, 1) := by decide +kernel
theorem dX5_book_2 : decode cX5_book 2 = .ok (.iconst 3, 1) := by decide +kernel
theorem dX5_book_3 : decode cX5_book 3 = .ok (.invokestatic 75, 3) := by decide +kernel
theorem dX5_book_6 : decode cX5_book 6 = .ok (.ifCond .ne 7, 3) := by decide +kernel
theorem dX5_book_9 : decode cX5_book 9 = .ok (.iconst 1, 1) := by decide +kernel
theorem dX5_book_10 : decode cX5_book 10 = .ok (.goto 4, 3) := by decide +kernel
theorem dX5_book_13 : decode cX5_book 13 = .ok (.iconst 0, 1) := by decide +kernel
theorem dX5_book_14 : decode cX5_book 14 = .ok (.istore_n 3, 1) := by decide +kernel
theorem dX5_book_15 : decode cX5_book 15 = .ok (.aload_n 0, 1) := by decide +kernel
theorem dX5_book_16 : decode cX5_book 16 = .ok (.iload_n 3, 1) := by decide +kernel
theorem dX5_book_17 : decode cX5_book 17 = .ok (.iload_n 3, 1) := by decide +kernel
theorem dX5_book_18 : decode cX5_book 18 = .ok (.ifCond .ne 32, 3) := by decide +kernel
theorem dX5_book_21 : decode cX5_book 21 = .ok (.iload_n 1, 1) := by decide +kernel
theorem dX5_book_22 : decode cX5_book 22 = .ok (.iconst 0, 1) := by decide +kernel
theorem dX5_book_23 : decode cX5_book 23 = .ok (.aload_n 0, 1) := by decide +kernel
theorem dX5_book_24 : decode cX5_book 24 = .ok (.getfield 97, 3) := by decide +kernel
theorem dX5_book_27 : decode cX5_book 27 = .ok (.iconst 1, 1) := by decide +kernel
theorem dX5_book_28 : decode cX5_book 28 = .ok (.isub, 1) := by decide +kernel
theorem dX5_book_29 : decode cX5_book 29 = .ok (.invokestatic 75, 3) := by decide +kernel
theorem dX5_book_32 : decode cX5_book 32 = .ok (.ifCond .eq 14, 3) := by decide +kernel
theorem dX5_book_35 : decode cX5_book 35 = .ok (.iload_n 1, 1) := by decide +kernel
theorem dX5_book_36 : decode cX5_book 36 = .ok (.bipush 60, 2) := by decide +kernel
theorem dX5_book_38 : decode cX5_book 38 = .ok (.iadd, 1) := by decide +kernel
theorem dX5_book_39 : decode cX5_book 39 = .ok (.aload_n 0, 1) := by decide +kernel
theorem dX5_book_40 : decode cX5_book 40 = .ok (.getfield 97, 3) := by decide +kernel
theorem dX5_book_43 : decode cX5_book 43 = .ok (.if_icmp .ge 7, 3) := by decide +kernel
theorem dX5_book_46 : decode cX5_book 46 = .ok (.iconst 1, 1) := by decide +kernel
theorem dX5_book_47 : decode cX5_book 47 = .ok (.goto 4, 3) := by decide +kernel
theorem dX5_book_50 : decode cX5_book 50 = .ok (.iconst 0, 1) := by decide +kernel
theorem dX5_book_51 : decode cX5_book 51 = .ok (.invokevirtual 144, 3) := by decide +kernel
theorem dX5_book_54 : decode cX5_book 54 = .ok (.ifCond .eq 5, 3) := by decide +kernel
theorem dX5_book_57 : decode cX5_book 57 = .ok (.iconst 0, 1) := by decide +kernel
theorem dX5_book_58 : decode cX5_book 58 = .ok (.ireturn, 1) := by decide +kernel
theorem dX5_book_59 : decode cX5_book 59 = .ok (.aload_n 0, 1) := by decide +kernel
theorem dX5_book_60 : decode cX5_book 60 = .ok (.getfield 68, 3) := by decide +kernel
theorem dX5_book_63 : decode cX5_book 63 = .ok (.iconst 4, 1) := by decide +kernel
theorem dX5_book_64 : decode cX5_book 64 = .ok (.iload_n 1, 1) := by decide +kernel
theorem dX5_book_65 : decode cX5_book 65 = .ok (.bipush 60, 2) := by decide +kernel
theorem dX5_book_67 : decode cX5_book 67 = .ok (.irem, 1) := by decide +kernel
theorem dX5_book_68 : decode cX5_book 68 = .ok (.imul, 1) := by decide +kernel
theorem dX5_book_69 : decode cX5_book 69 = .ok (.iload_n 2, 1) := by decide +kernel
theorem dX5_book_70 : decode cX5_book 70 = .ok (.iadd, 1) := by decide +kernel
theorem dX5_book_71 : decode cX5_book 71 = .ok (.iaload, 1) := by decide +kernel
theorem dX5_book_72 : decode cX5_book 72 = .ok (.ireturn, 1) := by decide +kernel
theorem dJ9_max_7cf53_0 : decode cJ9_max_7cf53 0 = .ok (.iload_n 0, 1) := by decide +kernel
theorem dJ9_max_7cf53_1 : decode cJ9_max_7cf53 1 = .ok (.iload_n 1, 1) := by decide +kernel
theorem dJ9_max_7cf53_2 : decode cJ9_max_7cf53 2 = .ok (.if_icmp .lt 7, 3) := by decide +kernel
theorem dJ9_max_7cf53_5 : decode cJ9_max_7cf53 5 = .ok (.iload_n 0, 1) := by decide +kernel
theorem dJ9_max_7cf53_6 : decode cJ9_max_7cf53 6 = .ok (.goto 4, 3) := by decide +kernel
theorem dJ9_max_7cf53_9 : decode cJ9_max_7cf53 9 = .ok (.iload_n 1, 1) := by decide +kernel
theorem dJ9_max_7cf53_10 : decode cJ9_max_7cf53 10 = .ok (.ireturn, 1) := by decide +kernel
theorem dJ9_min_7cf53_0 : decode cJ9_min_7cf53 0 = .ok (.iload_n 0, 1) := by decide +kernel
theorem dJ9_min_7cf53_1 : decode cJ9_min_7cf53 1 = .ok (.iload_n 1, 1) := by decide +kernel
theorem dJ9_min_7cf53_2 : decode cJ9_min_7cf53 2 = .ok (.if_icmp .gt 7, 3) := by decide +kernel
theorem dJ9_min_7cf53_5 : decode cJ9_min_7cf53 5 = .ok (.iload_n 0, 1) := by decide +kernel
theorem dJ9_min_7cf53_6 : decode cJ9_min_7cf53 6 = .ok (.goto 4, 3) := by decide +kernel
theorem dJ9_min_7cf53_9 : decode cJ9_min_7cf53 9 = .ok (.iload_n 1, 1) := by decide +kernel
theorem dJ9_min_7cf53_10 : decode cJ9_min_7cf53 10 = .ok (.ireturn, 1) := by decide +kernel
theorem dJ7_fill_53178_0 : decode cJ7_fill_53178 0 = .ok (.iconst 0, 1) := by decide +kernel
theorem dJ7_fill_53178_1 : decode cJ7_fill_53178 1 = .ok (.istore_n 2, 1) := by decide +kernel
theorem dJ7_fill_53178_2 : decode cJ7_fill_53178 2 = .ok (.aload_n 0, 1) := by decide +kernel
theorem dJ7_fill_53178_3 : decode cJ7_fill_53178 3 = .ok (.arraylength, 1) := by decide +kernel
theorem dJ7_fill_53178_4 : decode cJ7_fill_53178 4 = .ok (.istore_n 3, 1) := by decide +kernel
theorem dJ7_fill_53178_5 : decode cJ7_fill_53178 5 = .ok (.iload_n 2, 1) := by decide +kernel
theorem dJ7_fill_53178_6 : decode cJ7_fill_53178 6 = .ok (.iload_n 3, 1) := by decide +kernel
theorem dJ7_fill_53178_7 : decode cJ7_fill_53178 7 = .ok (.if_icmp .ge 13, 3) := by decide +kernel
theorem dJ7_fill_53178_10 : decode cJ7_fill_53178 10 = .ok (.aload_n 0, 1) := by decide +kernel
theorem dJ7_fill_53178_11 : decode cJ7_fill_53178 11 = .ok (.iload_n 2, 1) := by decide +kernel
theorem dJ7_fill_53178_12 : decode cJ7_fill_53178 12 = .ok (.iload_n 1, 1) := by decide +kernel
theorem dJ7_fill_53178_13 : decode cJ7_fill_53178 13 = .ok (.iastore, 1) := by decide +kernel
theorem dJ7_fill_53178_14 : decode cJ7_fill_53178 14 = .ok (.iinc 2 1, 3) := by decide +kernel
theorem dJ7_fill_53178_17 : decode cJ7_fill_53178 17 = .ok (.goto (-12), 3) := by decide +kernel
theorem dJ7_fill_53178_20 : decode cJ7_fill_53178 20 = .ok (.return_, 1) := by decide +kernel
set_option maxRecDepth 20000 in
theorem ggL_up_X4_up : GoodIn wsL_up wsX4_up := goodIn_ca (goodIn_ca (goodIn_r _ [7, 8, 9, 10, 11, 12, 13, 14, 6, 15, 16, 17, 18, 19, 20, 21, 22, 23, 24, 25, 26, 27, 28, 29, 30, 31, 32, 33, 34, 35, 36, 37, 38, 39, 40, 41, 42, 43, 44, 45, 46, 47, 48, 49, 50, 51, 52, 53, 54, 55, 56, 57, 58, 59, 60, 61, 62, 63, 64, 65, 66, 67, 68, 69, 70, 71, 72, 73, 74, 75, 76, 77, 78, 79, 80, 81, 82, 83, 84, 85, 86, 87, 88, 89, 90, 91, 92, 93, 94, 95, 96, 97, 98, 99, 100, 101, 102, 103, 104, 105, 106, 107, 108, 109, 110, 111, 112, 113, 114, 115, 116, 117, 118, 119, 120, 121, 122, 123, 124, 125, 126, 127] (by decide +kernel) (by decide +kernel)) (goodIn_sub (fun _ h => List.mem_cons_of_mem _ (List.mem_append_left _ (List.mem_append_right _ h))) (by decide +kernel))) (goodIn_sub (fun _ h => List.mem_cons_of_mem _ (List.mem_append_right _ h)) (by decide +kernel))
set_option maxRecDepth 20000 in
theorem gL_up_X4_up : GoodIn wsL_up (wsV RL 7 RX4 yX4_up wsX4_up) := goodIn_app (goodIn_of _ (by decide +kernel)) ggL_up_X4_up
theorem dL_up_0 : decode cL_up 0 = .ok (.aload_n 2, 1) := by decide +kernel
theorem dL_up_1 : decode cL_up 1 = .ok (.iconst 0, 1) := by decide +kernel
theorem dL_up_2 : decode cL_up 2 = .ok (.aload_n 0, 1) := by decide +kernel
theorem dL_up_3 : decode cL_up 3 = .ok (.iload_n 1, 1) := by decide +kernel
theorem dL_up_4 : decode cL_up 4 = .ok (.invokevirtual 7, 3) := by decide +kernel
theorem dL_up_7 : decode cL_up 7 = .ok (.i2l, 1) := by decide +kernel
theorem dL_up_8 : decode cL_up 8 = .ok (.lastore, 1) := by decide +kernel
theorem dL_up_9 : decode cL_up 9 = .ok (.goto 9, 3) := by decide +kernel
theorem dL_up_12 : decode cL_up 12 = .ok (.astore_n 3, 1) := by decide +kernel
theorem dL_up_13 : decode cL_up 13 = .ok (.iconst 1, 1) := by decide +kernel
theorem dL_up_14 : decode cL_up 14 = .ok (.ireturn, 1) := by decide +kernel
theorem dL_up_15 : decode cL_up 15 = .ok (.astore_n 3, 1) := by decide +kernel
theorem dL_up_16 : decode cL_up 16 = .ok (.iconst 2, 1) := by decide +kernel
theorem dL_up_17 : decode cL_up 17 = .ok (.ireturn, 1) := by decide +kernel
theorem dL_up_18 : decode cL_up 18 = .ok (.iconst 0, 1) := by decide +kernel
theorem dL_up_19 : decode cL_up 19 = .ok (.ireturn, 1) := by decide +kernel
set_option maxRecDepth 20000 in
theorem ggL_down_X4_down : GoodIn wsL_down wsX4_down := goodIn_ca (goodIn_ca (goodIn_r _ [7, 8, 9, 10, 11, 12, 13, 6, 14, 15, 16, 17, 18, 19, 20, 21, 22, 23, 24, 25, 26, 27, 28, 29, 30, 31, 32, 33, 34, 35, 36, 37, 38, 39, 40, 41, 42, 43, 44, 45, 46, 47, 48, 49, 50, 51, 52, 53, 54, 55, 56, 57, 58, 59, 60, 61, 62, 63, 64, 65, 66, 67, 68, 69, 70, 71, 72, 73, 74, 75, 76, 77, 78, 79, 80, 81, 82, 83, 84, 85, 86, 87, 88, 89, 90, 91, 92, 93, 94, 95, 96, 97, 98, 99, 100, 101, 102, 103, 104, 105, 106, 107, 108, 109, 110, 111, 112, 113, 114, 115, 116, 117, 118, 119, 120, 121, 122, 123, 124, 125, 126, 127, 128, 129, 130, 131, 132, 133, 134, 135, 136, 137, 138, 139] (by decide +kernel) (by decide +kernel)) (goodIn_sub (fun _ h => List.mem_cons_of_mem _ (List.mem_append_left _ (List.mem_append_right _ h))) (by decide +kernel))) (goodIn_sub (fun _ h => List.mem_cons_of_mem _ (List.mem_append_right _ h)) (by decide +kernel))
set_option maxRecDepth 20000 in
theorem gL_down_X4_down : GoodIn wsL_down (wsV RL 17 RX4 yX4_down wsX4_down) := goodIn_app (goodIn_of _ (by decide +kernel)) ggL_down_X4_down
theorem dL_down_0 : decode cL_down 0 = .ok (.aload_n 0, 1) := by decide +kernel
theorem dL_down_1 : decode cL_down 1 = .ok (.iload_n 1, 1) := by decide +kernel
theorem dL_down_2 : decode cL_down 2 = .ok (.invokevirtual 17, 3) := by decide +kernel
theorem dL_down_5 : decode cL_down 5 = .ok (.goto 9, 3) := by decide +kernel
theorem dL_down_8 : decode cL_down 8 = .ok (.astore_n 2, 1) := by decide +kernel
theorem dL_down_9 : decode cL_down 9 = .ok (.iconst 1, 1) := by decide +kernel
theorem dL_down_10 : decode cL_down 10 = .ok (.ireturn, 1) := by decide +kernel
theorem dL_down_11 : decode cL_down 11 = .ok (.astore_n 2, 1) := by decide +kernel
theorem dL_down_12 : decode cL_down 12 = .ok (.iconst 2, 1) := by decide +kernel
theorem dL_down_13 : decode cL_down 13 = .ok (.ireturn, 1) := by decide +kernel
theorem dL_down_14 : decode cL_down 14 = .ok (.iconst 0, 1) := by decide +kernel
theorem dL_down_15 : decode cL_down 15 = .ok (.ireturn, 1) := by decide +kernel
set_option maxRecDepth 20000 in
theorem ggL_digit_X4_digit : GoodIn wsL_digit wsX4_digit := goodIn_ca (goodIn_r _ [6, 7, 8, 9, 10, 11, 12, 5, 13, 14, 15, 16, 17, 18, 19, 20, 21, 22, 23, 24, 25, 26, 27, 28, 29, 30, 31, 32, 33, 34, 35, 36, 37, 38, 39, 40, 41, 42, 43, 44, 45, 46, 47, 48, 49, 50, 51, 52, 53, 54, 55, 56, 57, 58, 59, 60, 61, 62, 63, 64, 65, 66, 67, 68, 69, 70, 71, 72, 73, 74, 75, 76, 77, 78, 79, 80, 81, 82, 83, 84, 85, 86, 87, 88, 89, 90, 91, 92, 93, 94, 95, 96, 97, 98, 99, 100, 101, 102, 103, 104, 105, 106, 107, 108, 109, 110, 111, 112, 113, 114, 115, 116, 117, 118, 119, 120, 121, 122, 123, 124, 125, 126, 127, 128, 129, 130, 131, 132, 133, 134, 135, 136, 137, 138, 139, 140, 141, 142, 143, 144, 145, 146, 147, 148, 149, 150, 151, 152, 153, 154, 155, 156, 157, 158, 159, 160, 161, 162, 163, 164, 165, 166, 167, 168, 169, 170, 171, 172, 173, 174, 175, 176, 177, 178, 179, 180, 181] (by decide +kernel) (by decide +kernel)) (goodIn_sub (fun _ h => List.mem_cons_of_mem _ (List.mem_append_right _ h)) (by decide +kernel))
set_option maxRecDepth 20000 in
theorem gL_digit_X4_digit : GoodIn wsL_digit (wsV RL 21 RX4 yX4_digit wsX4_digit) := goodIn_app (goodIn_of _ (by decide +kernel)) ggL_digit_X4_digit
theorem dL_digit_0 : decode cL_digit 0 = .ok (.aload_n 3, 1) := by decide +kernel
theorem dL_digit_1 : decode cL_digit 1 = .ok (.iconst 0, 1) := by decide +kernel
theorem dL_digit_2 : decode cL_digit 2 = .ok (.aload_n 0, 1) := by decide +kernel
theorem dL_digit_3 : decode cL_digit 3 = .ok (.iload_n 1, 1) := by decide +kernel
theorem dL_digit_4 : decode cL_digit 4 = .ok (.iload_n 2, 1) := by decide +kernel
theorem dL_digit_5 : decode cL_digit 5 = .ok (.invokevirtual 21, 3) := by decide +kernel
theorem dL_digit_8 : decode cL_digit 8 = .ok (.i2l, 1) := by decide +kernel
theorem dL_digit_9 : decode cL_digit 9 = .ok (.lastore, 1) := by decide +kernel
theorem dL_digit_10 : decode cL_digit 10 = .ok (.goto 7, 3) := by decide +kernel
theorem dL_digit_13 : decode cL_digit 13 = .ok (.astore 4, 2) := by decide +kernel
theorem dL_digit_15 : decode cL_digit 15 = .ok (.iconst 1, 1) := by decide +kernel
theorem dL_digit_16 : decode cL_digit 16 = .ok (.ireturn, 1) := by decide +kernel
theorem dL_digit_17 : decode cL_digit 17 = .ok (.iconst 0, 1) := by decide +kernel
theorem dL_digit_18 : decode cL_digit 18 = .ok (.ireturn, 1) := by decide +kernel
set_option maxRecDepth 20000 in
theorem ggL_camp_X4_camp : GoodIn wsL_camp wsX4_camp := goodIn_ca (goodIn_ca (goodIn_r _ [7, 8, 9, 10, 11, 12, 13, 14, 15, 16, 17, 18, 6, 19, 20, 21, 22, 23, 24, 25, 26, 27, 28, 29, 30, 31, 32, 33, 34, 35, 36, 37, 38, 39, 40, 41, 42, 43, 44, 45, 46, 47, 48, 49, 50, 51, 52, 53, 54, 55, 56] (by decide +kernel) (by decide +kernel)) (goodIn_sub (fun _ h => List.mem_cons_of_mem _ (List.mem_append_left _ (List.mem_append_right _ h))) (by decide +kernel))) (goodIn_sub (fun _ h => List.mem_cons_of_mem _ (List.mem_append_right _ h)) (by decide +kernel))
set_option maxRecDepth 20000 in
theorem gL_camp_X4_camp : GoodIn wsL_camp (wsV RL 25 RX4 yX4_camp wsX4_camp) := goodIn_app (goodIn_of _ (by decide +kernel)) ggL_camp_X4_camp
theorem dL_camp_0 : decode cL_camp 0 = .ok (.aload_n 2, 1) := by decide +kernel
theorem dL_camp_1 : decode cL_camp 1 = .ok (.iconst 0, 1) := by decide +kernel
theorem dL_camp_2 : decode cL_camp 2 = .ok (.aload_n 0, 1) := by decide +kernel
theorem dL_camp_3 : decode cL_camp 3 = .ok (.iload_n 1, 1) := by decide +kernel
theorem dL_camp_4 : decode cL_camp 4 = .ok (.invokevirtual 25, 3) := by decide +kernel
theorem dL_camp_7 : decode cL_camp 7 = .ok (.i2l, 1) := by decide +kernel
theorem dL_camp_8 : decode cL_camp 8 = .ok (.lastore, 1) := by decide +kernel
theorem dL_camp_9 : decode cL_camp 9 = .ok (.goto 9, 3) := by decide +kernel
theorem dL_camp_12 : decode cL_camp 12 = .ok (.astore_n 3, 1) := by decide +kernel
theorem dL_camp_13 : decode cL_camp 13 = .ok (.iconst 1, 1) := by decide +kernel
theorem dL_camp_14 : decode cL_camp 14 = .ok (.ireturn, 1) := by decide +kernel
theorem dL_camp_15 : decode cL_camp 15 = .ok (.astore_n 3, 1) := by decide +kernel
theorem dL_camp_16 : decode cL_camp 16 = .ok (.iconst 2, 1) := by decide +kernel
theorem dL_camp_17 : decode cL_camp 17 = .ok (.ireturn, 1) := by decide +kernel
theorem dL_camp_18 : decode cL_camp 18 = .ok (.iconst 0, 1) := by decide +kernel
theorem dL_camp_19 : decode cL_camp 19 = .ok (.ireturn, 1) := by decide +kernel
set_option maxRecDepth 20000 in
theorem ggL_park_X4_park : GoodIn wsL_park wsX4_park := goodIn_ca (goodIn_ca (goodIn_r _ [7, 8, 9, 10, 11, 12, 13, 14, 15, 16, 17, 6, 18, 19, 20, 21, 22, 23, 24, 25, 26, 27, 28, 29, 30, 31, 32, 33, 34, 35, 36, 37, 38, 39, 40, 41, 42, 43, 44, 45, 46, 47, 48, 49, 50, 51, 52, 53, 54, 55, 56, 57, 58, 59, 60, 61, 62, 63, 64, 65, 66, 67, 68, 69, 70, 71, 72, 73, 74, 75, 76, 77, 78, 79, 80, 81, 82, 83, 84, 85, 86, 87, 88, 89, 90, 91] (by decide +kernel) (by decide +kernel)) (goodIn_sub (fun _ h => List.mem_cons_of_mem _ (List.mem_append_left _ (List.mem_append_right _ h))) (by decide +kernel))) (goodIn_sub (fun _ h => List.mem_cons_of_mem _ (List.mem_append_right _ h)) (by decide +kernel))
set_option maxRecDepth 20000 in
theorem gL_park_X4_park : GoodIn wsL_park (wsV RL 28 RX4 yX4_park wsX4_park) := goodIn_app (goodIn_of _ (by decide +kernel)) ggL_park_X4_park
theorem dL_park_0 : decode cL_park 0 = .ok (.aload_n 3, 1) := by decide +kernel
theorem dL_park_1 : decode cL_park 1 = .ok (.iconst 0, 1) := by decide +kernel
theorem dL_park_2 : decode cL_park 2 = .ok (.aload_n 0, 1) := by decide +kernel
theorem dL_park_3 : decode cL_park 3 = .ok (.iload_n 1, 1) := by decide +kernel
theorem dL_park_4 : decode cL_park 4 = .ok (.iload_n 2, 1) := by decide +kernel
theorem dL_park_5 : decode cL_park 5 = .ok (.invokevirtual 28, 3) := by decide +kernel
theorem dL_park_8 : decode cL_park 8 = .ok (.i2l, 1) := by decide +kernel
theorem dL_park_9 : decode cL_park 9 = .ok (.lastore, 1) := by decide +kernel
theorem dL_park_10 : decode cL_park 10 = .ok (.goto 11, 3) := by decide +kernel
theorem dL_park_13 : decode cL_park 13 = .ok (.astore 4, 2) := by decide +kernel
theorem dL_park_15 : decode cL_park 15 = .ok (.iconst 1, 1) := by decide +kernel
theorem dL_park_16 : decode cL_park 16 = .ok (.ireturn, 1) := by decide +kernel
theorem dL_park_17 : decode cL_park 17 = .ok (.astore 4, 2) := by decide +kernel
theorem dL_park_19 : decode cL_park 19 = .ok (.iconst 2, 1) := by decide +kernel
theorem dL_park_20 : decode cL_park 20 = .ok (.ireturn, 1) := by decide +kernel
theorem dL_park_21 : decode cL_park 21 = .ok (.iconst 0, 1) := by decide +kernel
theorem dL_park_22 : decode cL_park 22 = .ok (.ireturn, 1) := by decide +kernel
set_option maxRecDepth 20000 in
theorem ggL_transfer_X4_transfer : GoodIn wsL_transfer wsX4_transfer := goodIn_ca (goodIn_ca (goodIn_r _ [7, 8, 9, 10, 11, 12, 13, 6, 14, 15, 16, 17, 18, 19, 20, 21, 22, 23, 24, 25, 26, 27, 28, 29, 30, 31, 32, 33, 34, 35, 36, 37, 38, 39, 40, 41, 42, 43, 44, 45, 46, 47, 48, 49, 50, 51, 52, 53, 54, 55, 56, 57, 58, 59, 60, 61, 62, 63, 64, 65, 66, 67, 68, 69, 70, 71, 72, 73, 74, 75, 76, 77, 78, 79, 80, 81, 82, 83, 84, 85, 86, 87, 88, 89, 90, 91, 92, 93, 94, 95, 96, 97, 98, 99, 100, 101, 102, 103, 104, 105, 106, 107, 108, 109, 110, 111, 112, 113, 114, 115, 116, 117, 118, 119, 120, 121, 122, 123, 124, 125, 126, 127, 128, 129, 130, 131, 132, 133, 134, 135, 136, 137, 138, 139, 140, 141, 142, 143, 144, 145, 146, 147, 148, 149, 150, 151, 152, 153, 154, 155, 156, 157, 158, 159, 160, 161, 162, 163, 164, 165, 166, 167, 168, 169, 170, 171, 172, 173, 174, 175, 176, 177, 178, 179, 180, 181, 182, 183, 184, 185, 186, 187, 188, 189, 190, 191, 192, 193, 194, 195, 196, 197, 198, 199, 200, 201, 202] (by decide +kernel) (by decide +kernel)) (goodIn_sub (fun _ h => List.mem_cons_of_mem _ (List.mem_append_left _ (List.mem_append_right _ h))) (by decide +kernel))) (goodIn_sub (fun _ h => List.mem_cons_of_mem _ (List.mem_append_right _ h)) (by decide +kernel))
set_option maxRecDepth 20000 in
theorem gL_transfer_X4_transfer : GoodIn wsL_transfer (wsV RL 31 RX4 yX4_transfer wsX4_transfer) := goodIn_app (goodIn_of _ (by decide +kernel)) ggL_transfer_X4_transfer
theorem dL_transfer_0 : decode cL_transfer 0 = .ok (.aload_n 3, 1) := by decide +kernel
theorem dL_transfer_1 : decode cL_transfer 1 = .ok (.iconst 0, 1) := by decide +kernel
theorem dL_transfer_2 : decode cL_transfer 2 = .ok (.aload_n 0, 1) := by decide +kernel
theorem dL_transfer_3 : decode cL_transfer 3 = .ok (.iload_n 1, 1) := by decide +kernel
theorem dL_transfer_4 : decode cL_transfer 4 = .ok (.iload_n 2, 1) := by decide +kernel
theorem dL_transfer_5 : decode cL_transfer 5 = .ok (.invokevirtual 31, 3) := by decide +kernel
theorem dL_transfer_8 : decode cL_transfer 8 = .ok (.i2l, 1) := by decide +kernel
theorem dL_transfer_9 : decode cL_transfer 9 = .ok (.lastore, 1) := by decide +kernel
theorem dL_transfer_10 : decode cL_transfer 10 = .ok (.goto 11, 3) := by decide +kernel
theorem dL_transfer_13 : decode cL_transfer 13 = .ok (.astore 4, 2) := by decide +kernel
theorem dL_transfer_15 : decode cL_transfer 15 = .ok (.iconst 1, 1) := by decide +kernel
theorem dL_transfer_16 : decode cL_transfer 16 = .ok (.ireturn, 1) := by decide +kernel
theorem dL_transfer_17 : decode cL_transfer 17 = .ok (.astore 4, 2) := by decide +kernel
theorem dL_transfer_19 : decode cL_transfer 19 = .ok (.iconst 2, 1) := by decide +kernel
theorem dL_transfer_20 : decode cL_transfer 20 = .ok (.ireturn, 1) := by decide +kernel
theorem dL_transfer_21 : decode cL_transfer 21 = .ok (.iconst 0, 1) := by decide +kernel
theorem dL_transfer_22 : decode cL_transfer 22 = .ok (.ireturn, 1) := by decide +kernel
set_option maxRecDepth 20000 in
theorem ggL_tick_X4_tick : GoodIn wsL_tick wsX4_tick := goodIn_ca (goodIn_r _ [6, 7, 8, 9, 10, 11, 12, 13, 14, 15, 16, 5, 17, 18, 19, 20, 21, 22, 23, 24, 25, 26, 27, 28, 29, 30, 31, 32, 33, 34, 35, 36, 37, 38, 39, 40, 41, 42, 43, 44, 45, 46, 47, 48, 49, 50, 51, 52, 53, 54, 55, 56, 57, 58, 59, 60, 61, 62, 63, 64, 65, 66, 67, 68, 69, 70, 71, 72, 73, 74, 75, 76, 77, 78, 79, 80, 81, 82, 83, 84, 85, 86, 87, 88, 89, 90, 91, 92, 93, 94, 95, 96, 97, 98, 99, 100, 101, 102, 103, 104, 105, 106, 107, 108, 109, 110, 111, 112, 113, 114, 115, 116, 117, 118, 119, 120, 121, 122, 123, 124, 125, 126, 127, 128, 129, 130, 131, 132, 133, 134, 135, 136, 137, 138, 139, 140, 141, 142, 143, 144, 145, 146, 147] (by decide +kernel) (by decide +kernel)) (goodIn_sub (fun _ h => List.mem_cons_of_mem _ (List.mem_append_right _ h)) (by decide +kernel))
set_option maxRecDepth 20000 in
theorem gL_tick_X4_tick : GoodIn wsL_tick (wsV RL 34 RX4 yX4_tick wsX4_tick) := goodIn_app (goodIn_of _ (by decide +kernel)) ggL_tick_X4_tick
theorem dL_tick_0 : decode cL_tick 0 = .ok (.aload_n 2, 1) := by decide +kernel
theorem dL_tick_1 : decode cL_tick 1 = .ok (.iconst 0, 1) := by decide +kernel
theorem dL_tick_2 : decode cL_tick 2 = .ok (.aload_n 0, 1) := by decide +kernel
theorem dL_tick_3 : decode cL_tick 3 = .ok (.iload_n 1, 1) := by decide +kernel
theorem dL_tick_4 : decode cL_tick 4 = .ok (.invokevirtual 34, 3) := by decide +kernel
theorem dL_tick_7 : decode cL_tick 7 = .ok (.i2l, 1) := by decide +kernel
theorem dL_tick_8 : decode cL_tick 8 = .ok (.lastore, 1) := by decide +kernel
theorem dL_tick_9 : decode cL_tick 9 = .ok (.goto 6, 3) := by decide +kernel
theorem dL_tick_12 : decode cL_tick 12 = .ok (.astore_n 3, 1) := by decide +kernel
theorem dL_tick_13 : decode cL_tick 13 = .ok (.iconst 1, 1) := by decide +kernel
theorem dL_tick_14 : decode cL_tick 14 = .ok (.ireturn, 1) := by decide +kernel
theorem dL_tick_15 : decode cL_tick 15 = .ok (.iconst 0, 1) := by decide +kernel
theorem dL_tick_16 : decode cL_tick 16 = .ok (.ireturn, 1) := by decide +kernel
set_option maxRecDepth 20000 in
theorem ggL_group_X4_group : GoodIn wsL_group wsX4_group := goodIn_ca (goodIn_ca (goodIn_r _ [7, 8, 9, 10, 11, 12, 13, 6, 14, 15, 16, 17, 18, 19, 20, 21, 22, 23, 24, 25, 26, 27, 28, 29, 30, 31, 32, 33, 34, 35, 36, 37, 38, 39, 40, 41, 42, 43, 44, 45, 46, 47] (by decide +kernel) (by decide +kernel)) (goodIn_sub (fun _ h => List.mem_cons_of_mem _ (List.mem_append_left _ (List.mem_append_right _ h))) (by decide +kernel))) (goodIn_sub (fun _ h => List.mem_cons_of_mem _ (List.mem_append_right _ h)) (by decide +kernel))
set_option maxRecDepth 20000 in
theorem gL_group_X4_group : GoodIn wsL_group (wsV RL 37 RX4 yX4_group wsX4_group) := goodIn_app (goodIn_of _ (by decide +kernel)) ggL_group_X4_group
theorem dL_group_0 : decode cL_group 0 = .ok (.aload 4, 2) := by decide +kernel
theorem dL_group_2 : decode cL_group 2 = .ok (.iconst 0, 1) := by decide +kernel
theorem dL_group_3 : decode cL_group 3 = .ok (.aload_n 0, 1) := by decide +kernel
theorem dL_group_4 : decode cL_group 4 = .ok (.iload_n 1, 1) := by decide +kernel
theorem dL_group_5 : decode cL_group 5 = .ok (.iload_n 2, 1) := by decide +kernel
theorem dL_group_6 : decode cL_group 6 = .ok (.iload_n 3, 1) := by decide +kernel
theorem dL_group_7 : decode cL_group 7 = .ok (.invokevirtual 37, 3) := by decide +kernel
theorem dL_group_10 : decode cL_group 10 = .ok (.i2l, 1) := by decide +kernel
theorem dL_group_11 : decode cL_group 11 = .ok (.lastore, 1) := by decide +kernel
theorem dL_group_12 : decode cL_group 12 = .ok (.goto 11, 3) := by decide +kernel
theorem dL_group_15 : decode cL_group 15 = .ok (.astore 5, 2) := by decide +kernel
theorem dL_group_17 : decode cL_group 17 = .ok (.iconst 1, 1) := by decide +kernel
theorem dL_group_18 : decode cL_group 18 = .ok (.ireturn, 1) := by decide +kernel
theorem dL_group_19 : decode cL_group 19 = .ok (.astore 5, 2) := by decide +kernel
theorem dL_group_21 : decode cL_group 21 = .ok (.iconst 2, 1) := by decide +kernel
theorem dL_group_22 : decode cL_group 22 = .ok (.ireturn, 1) := by decide +kernel
theorem dL_group_23 : decode cL_group 23 = .ok (.iconst 0, 1) := by decide +kernel
theorem dL_group_24 : decode cL_group 24 = .ok (.ireturn, 1) := by decide +kernel
set_option maxRecDepth 20000 in
theorem ggL_slot_X4_slot : GoodIn wsL_slot wsX4_slot := goodIn_ca (goodIn_ca (goodIn_r _ [7, 8, 9, 10, 11, 12, 13, 6, 14, 15, 16, 17, 18, 19, 20, 21, 22, 23, 24, 25, 26, 27] (by decide +kernel) (by decide +kernel)) (goodIn_sub (fun _ h => List.mem_cons_of_mem _ (List.mem_append_left _ (List.mem_append_right _ h))) (by decide +kernel))) (goodIn_sub (fun _ h => List.mem_cons_of_mem _ (List.mem_append_right _ h)) (by decide +kernel))
set_option maxRecDepth 20000 in
theorem gL_slot_X4_slot : GoodIn wsL_slot (wsV RL 41 RX4 yX4_slot wsX4_slot) := goodIn_app (goodIn_of _ (by decide +kernel)) ggL_slot_X4_slot
theorem dL_slot_0 : decode cL_slot 0 = .ok (.aload_n 0, 1) := by decide +kernel
theorem dL_slot_1 : decode cL_slot 1 = .ok (.iload_n 1, 1) := by decide +kernel
theorem dL_slot_2 : decode cL_slot 2 = .ok (.iload_n 2, 1) := by decide +kernel
theorem dL_slot_3 : decode cL_slot 3 = .ok (.iload_n 3, 1) := by decide +kernel
theorem dL_slot_4 : decode cL_slot 4 = .ok (.invokevirtual 41, 3) := by decide +kernel
theorem dL_slot_7 : decode cL_slot 7 = .ok (.goto 11, 3) := by decide +kernel
theorem dL_slot_10 : decode cL_slot 10 = .ok (.astore 4, 2) := by decide +kernel
theorem dL_slot_12 : decode cL_slot 12 = .ok (.iconst 1, 1) := by decide +kernel
theorem dL_slot_13 : decode cL_slot 13 = .ok (.ireturn, 1) := by decide +kernel
theorem dL_slot_14 : decode cL_slot 14 = .ok (.astore 4, 2) := by decide +kernel
theorem dL_slot_16 : decode cL_slot 16 = .ok (.iconst 2, 1) := by decide +kernel
theorem dL_slot_17 : decode cL_slot 17 = .ok (.ireturn, 1) := by decide +kernel
theorem dL_slot_18 : decode cL_slot 18 = .ok (.iconst 0, 1) := by decide +kernel
theorem dL_slot_19 : decode cL_slot 19 = .ok (.ireturn, 1) := by decide +kernel
set_option maxRecDepth 20000 in
theorem ggL_carries_X4_carries : GoodIn wsL_carries wsX4_carries := goodIn_ca (goodIn_r _ [6, 7, 8, 9, 10, 5, 11, 12, 13, 14, 15, 16, 17, 18, 19, 20, 21, 22, 23, 24] (by decide +kernel) (by decide +kernel)) (goodIn_sub (fun _ h => List.mem_cons_of_mem _ (List.mem_append_right _ h)) (by decide +kernel))
set_option maxRecDepth 20000 in
theorem gL_carries_X4_carries : GoodIn wsL_carries (wsV RL 45 RX4 yX4_carries wsX4_carries) := goodIn_app (goodIn_of _ (by decide +kernel)) ggL_carries_X4_carries
theorem dL_carries_0 : decode cL_carries 0 = .ok (.aload_n 3, 1) := by decide +kernel
theorem dL_carries_1 : decode cL_carries 1 = .ok (.iconst 0, 1) := by decide +kernel
theorem dL_carries_2 : decode cL_carries 2 = .ok (.aload_n 0, 1) := by decide +kernel
theorem dL_carries_3 : decode cL_carries 3 = .ok (.iload_n 1, 1) := by decide +kernel
theorem dL_carries_4 : decode cL_carries 4 = .ok (.iload_n 2, 1) := by decide +kernel
theorem dL_carries_5 : decode cL_carries 5 = .ok (.invokevirtual 45, 3) := by decide +kernel
theorem dL_carries_8 : decode cL_carries 8 = .ok (.i2l, 1) := by decide +kernel
theorem dL_carries_9 : decode cL_carries 9 = .ok (.lastore, 1) := by decide +kernel
theorem dL_carries_10 : decode cL_carries 10 = .ok (.goto 7, 3) := by decide +kernel
theorem dL_carries_13 : decode cL_carries 13 = .ok (.astore 4, 2) := by decide +kernel
theorem dL_carries_15 : decode cL_carries 15 = .ok (.iconst 1, 1) := by decide +kernel
theorem dL_carries_16 : decode cL_carries 16 = .ok (.ireturn, 1) := by decide +kernel
theorem dL_carries_17 : decode cL_carries 17 = .ok (.iconst 0, 1) := by decide +kernel
theorem dL_carries_18 : decode cL_carries 18 = .ok (.ireturn, 1) := by decide +kernel
set_option maxRecDepth 20000 in
theorem ggL_line_X4_line : GoodIn wsL_line wsX4_line := goodIn_ca (goodIn_r _ [6, 7, 8, 9, 10, 11, 12, 13, 14, 15, 5, 16, 17, 18, 19, 20, 21, 22, 23, 24, 25, 26, 27, 28, 29, 30, 31, 32, 33, 34, 35, 36, 37, 38, 39, 40, 41, 42, 43, 44, 45, 46, 47, 48, 49, 50, 51, 52, 53, 54, 55, 56, 57, 58, 59, 60, 61, 62, 63, 64, 65, 66] (by decide +kernel) (by decide +kernel)) (goodIn_sub (fun _ h => List.mem_cons_of_mem _ (List.mem_append_right _ h)) (by decide +kernel))
set_option maxRecDepth 20000 in
theorem gL_line_X4_line : GoodIn wsL_line (wsV RL 48 RX4 yX4_line wsX4_line) := goodIn_app (goodIn_of _ (by decide +kernel)) ggL_line_X4_line
theorem dL_line_0 : decode cL_line 0 = .ok (.aload_n 3, 1) := by decide +kernel
theorem dL_line_1 : decode cL_line 1 = .ok (.iconst 0, 1) := by decide +kernel
theorem dL_line_2 : decode cL_line 2 = .ok (.aload_n 0, 1) := by decide +kernel
theorem dL_line_3 : decode cL_line 3 = .ok (.iload_n 1, 1) := by decide +kernel
theorem dL_line_4 : decode cL_line 4 = .ok (.iload_n 2, 1) := by decide +kernel
theorem dL_line_5 : decode cL_line 5 = .ok (.invokevirtual 48, 3) := by decide +kernel
theorem dL_line_8 : decode cL_line 8 = .ok (.i2l, 1) := by decide +kernel
theorem dL_line_9 : decode cL_line 9 = .ok (.lastore, 1) := by decide +kernel
theorem dL_line_10 : decode cL_line 10 = .ok (.goto 7, 3) := by decide +kernel
theorem dL_line_13 : decode cL_line 13 = .ok (.astore 4, 2) := by decide +kernel
theorem dL_line_15 : decode cL_line 15 = .ok (.iconst 1, 1) := by decide +kernel
theorem dL_line_16 : decode cL_line 16 = .ok (.ireturn, 1) := by decide +kernel
theorem dL_line_17 : decode cL_line 17 = .ok (.iconst 0, 1) := by decide +kernel
theorem dL_line_18 : decode cL_line 18 = .ok (.ireturn, 1) := by decide +kernel
set_option maxRecDepth 20000 in
theorem ggL_count_X4_count : GoodIn wsL_count wsX4_count := goodIn_ca (goodIn_r _ [6, 7, 8, 9, 10, 11, 12, 5, 13, 14, 15, 16, 17, 18, 19, 20, 21, 22, 23, 24, 25, 26, 27, 28, 29, 30, 31] (by decide +kernel) (by decide +kernel)) (goodIn_sub (fun _ h => List.mem_cons_of_mem _ (List.mem_append_right _ h)) (by decide +kernel))
set_option maxRecDepth 20000 in
theorem gL_count_X4_count : GoodIn wsL_count (wsV RL 51 RX4 yX4_count wsX4_count) := goodIn_app (goodIn_of _ (by decide +kernel)) ggL_count_X4_count
theorem dL_count_0 : decode cL_count 0 = .ok (.aload_n 2, 1) := by decide +kernel
theorem dL_count_1 : decode cL_count 1 = .ok (.iconst 0, 1) := by decide +kernel
theorem dL_count_2 : decode cL_count 2 = .ok (.aload_n 0, 1) := by decide +kernel
theorem dL_count_3 : decode cL_count 3 = .ok (.iload_n 1, 1) := by decide +kernel
theorem dL_count_4 : decode cL_count 4 = .ok (.invokevirtual 51, 3) := by decide +kernel
theorem dL_count_7 : decode cL_count 7 = .ok (.i2l, 1) := by decide +kernel
theorem dL_count_8 : decode cL_count 8 = .ok (.lastore, 1) := by decide +kernel
theorem dL_count_9 : decode cL_count 9 = .ok (.goto 6, 3) := by decide +kernel
theorem dL_count_12 : decode cL_count 12 = .ok (.astore_n 3, 1) := by decide +kernel
theorem dL_count_13 : decode cL_count 13 = .ok (.iconst 1, 1) := by decide +kernel
theorem dL_count_14 : decode cL_count 14 = .ok (.ireturn, 1) := by decide +kernel
theorem dL_count_15 : decode cL_count 15 = .ok (.iconst 0, 1) := by decide +kernel
theorem dL_count_16 : decode cL_count 16 = .ok (.ireturn, 1) := by decide +kernel
set_option maxRecDepth 20000 in
theorem ggL_book_X4_book : GoodIn wsL_book wsX4_book := goodIn_ca (goodIn_ca (goodIn_r _ [7, 8, 9, 10, 11, 12, 6, 13, 14, 15, 16, 17, 18, 19, 20, 21, 22, 23, 24, 25, 26, 27, 28, 29, 30, 31, 32, 33, 34, 35] (by decide +kernel) (by decide +kernel)) (goodIn_sub (fun _ h => List.mem_cons_of_mem _ (List.mem_append_left _ (List.mem_append_right _ h))) (by decide +kernel))) (goodIn_sub (fun _ h => List.mem_cons_of_mem _ (List.mem_append_right _ h)) (by decide +kernel))
set_option maxRecDepth 20000 in
theorem gL_book_X4_book : GoodIn wsL_book (wsV RL 54 RX4 yX4_book wsX4_book) := goodIn_app (goodIn_of _ (by decide +kernel)) ggL_book_X4_book
theorem dL_book_0 : decode cL_book 0 = .ok (.aload_n 3, 1) := by decide +kernel
theorem dL_book_1 : decode cL_book 1 = .ok (.iconst 0, 1) := by decide +kernel
theorem dL_book_2 : decode cL_book 2 = .ok (.aload_n 0, 1) := by decide +kernel
theorem dL_book_3 : decode cL_book 3 = .ok (.iload_n 1, 1) := by decide +kernel
theorem dL_book_4 : decode cL_book 4 = .ok (.iload_n 2, 1) := by decide +kernel
theorem dL_book_5 : decode cL_book 5 = .ok (.invokevirtual 54, 3) := by decide +kernel
theorem dL_book_8 : decode cL_book 8 = .ok (.i2l, 1) := by decide +kernel
theorem dL_book_9 : decode cL_book 9 = .ok (.lastore, 1) := by decide +kernel
theorem dL_book_10 : decode cL_book 10 = .ok (.goto 11, 3) := by decide +kernel
theorem dL_book_13 : decode cL_book 13 = .ok (.astore 4, 2) := by decide +kernel
theorem dL_book_15 : decode cL_book 15 = .ok (.iconst 1, 1) := by decide +kernel
theorem dL_book_16 : decode cL_book 16 = .ok (.ireturn, 1) := by decide +kernel
theorem dL_book_17 : decode cL_book 17 = .ok (.astore 4, 2) := by decide +kernel
theorem dL_book_19 : decode cL_book 19 = .ok (.iconst 2, 1) := by decide +kernel
theorem dL_book_20 : decode cL_book 20 = .ok (.ireturn, 1) := by decide +kernel
theorem dL_book_21 : decode cL_book 21 = .ok (.iconst 0, 1) := by decide +kernel
theorem dL_book_22 : decode cL_book 22 = .ok (.ireturn, 1) := by decide +kernel
theorem dL_law_0 : decode cL_law 0 = .ok (.new 8, 3) := by decide +kernel
theorem dL_law_3 : decode cL_law 3 = .ok (.dup, 1) := by decide +kernel
theorem dL_law_4 : decode cL_law 4 = .ok (.invokespecial 59, 3) := by decide +kernel
theorem dL_law_7 : decode cL_law 7 = .ok (.astore_n 1, 1) := by decide +kernel
theorem dL_law_8 : decode cL_law 8 = .ok (.new 60, 3) := by decide +kernel
theorem dL_law_11 : decode cL_law 11 = .ok (.dup, 1) := by decide +kernel
theorem dL_law_12 : decode cL_law 12 = .ok (.invokespecial 62, 3) := by decide +kernel
theorem dL_law_15 : decode cL_law 15 = .ok (.astore_n 2, 1) := by decide +kernel
theorem dL_law_16 : decode cL_law 16 = .ok (.iconst 1, 1) := by decide +kernel
theorem dL_law_17 : decode cL_law 17 = .ok (.newarray .long, 2) := by decide +kernel
theorem dL_law_19 : decode cL_law 19 = .ok (.astore_n 3, 1) := by decide +kernel
theorem dL_law_20 : decode cL_law 20 = .ok (.iconst 0, 1) := by decide +kernel
theorem dL_law_21 : decode cL_law 21 = .ok (.istore 4, 2) := by decide +kernel
theorem dL_law_23 : decode cL_law 23 = .ok (.iload 4, 2) := by decide +kernel
theorem dL_law_25 : decode cL_law 25 = .ok (.aload_n 0, 1) := by decide +kernel
theorem dL_law_26 : decode cL_law 26 = .ok (.arraylength, 1) := by decide +kernel
theorem dL_law_27 : decode cL_law 27 = .ok (.iconst 4, 1) := by decide +kernel
theorem dL_law_28 : decode cL_law 28 = .ok (.isub, 1) := by decide +kernel
theorem dL_law_29 : decode cL_law 29 = .ok (.if_icmp .gt 905, 3) := by decide +kernel
theorem dL_law_32 : decode cL_law 32 = .ok (.aload_n 0, 1) := by decide +kernel
theorem dL_law_33 : decode cL_law 33 = .ok (.iload 4, 2) := by decide +kernel
theorem dL_law_35 : decode cL_law 35 = .ok (.iaload, 1) := by decide +kernel
theorem dL_law_36 : decode cL_law 36 = .ok (.bipush 15, 2) := by decide +kernel
theorem dL_law_38 : decode cL_law 38 = .ok (.iand, 1) := by decide +kernel
theorem dL_law_39 : decode cL_law 39 = .ok (.tableswitch 889 0 12 #[65, 121, 157, 225, 281, 349, 417, 473, 553, 629, 697, 765, 821], 65) := by decide +kernel
theorem dL_law_104 : decode cL_law 104 = .ok (.aload_n 1, 1) := by decide +kernel
theorem dL_law_105 : decode cL_law 105 = .ok (.aload_n 0, 1) := by decide +kernel
theorem dL_law_106 : decode cL_law 106 = .ok (.iload 4, 2) := by decide +kernel
theorem dL_law_108 : decode cL_law 108 = .ok (.iconst 1, 1) := by decide +kernel
theorem dL_law_109 : decode cL_law 109 = .ok (.iadd, 1) := by decide +kernel
theorem dL_law_110 : decode cL_law 110 = .ok (.iaload, 1) := by decide +kernel
theorem dL_law_111 : decode cL_law 111 = .ok (.aload_n 3, 1) := by decide +kernel
theorem dL_law_112 : decode cL_law 112 = .ok (.invokestatic 63, 3) := by decide +kernel
theorem dL_law_115 : decode cL_law 115 = .ok (.istore 5, 2) := by decide +kernel
theorem dL_law_117 : decode cL_law 117 = .ok (.aload_n 2, 1) := by decide +kernel
theorem dL_law_118 : decode cL_law 118 = .ok (.aload_n 0, 1) := by decide +kernel
theorem dL_law_119 : decode cL_law 119 = .ok (.iload 4, 2) := by decide +kernel
theorem dL_law_121 : decode cL_law 121 = .ok (.iconst 1, 1) := by decide +kernel
theorem dL_law_122 : decode cL_law 122 = .ok (.iadd, 1) := by decide +kernel
theorem dL_law_123 : decode cL_law 123 = .ok (.iaload, 1) := by decide +kernel
theorem dL_law_124 : decode cL_law 124 = .ok (.invokevirtual 68, 3) := by decide +kernel
theorem dL_law_127 : decode cL_law 127 = .ok (.istore 6, 2) := by decide +kernel
theorem dL_law_129 : decode cL_law 129 = .ok (.aload_n 2, 1) := by decide +kernel
theorem dL_law_130 : decode cL_law 130 = .ok (.invokevirtual 69, 3) := by decide +kernel
theorem dL_law_133 : decode cL_law 133 = .ok (.iload 5, 2) := by decide +kernel
theorem dL_law_135 : decode cL_law 135 = .ok (.if_icmp .eq 5, 3) := by decide +kernel
theorem dL_law_138 : decode cL_law 138 = .ok (.iconst 0, 1) := by decide +kernel
theorem dL_law_139 : decode cL_law 139 = .ok (.ireturn, 1) := by decide +kernel
theorem dL_law_140 : decode cL_law 140 = .ok (.iload 5, 2) := by decide +kernel
theorem dL_law_142 : decode cL_law 142 = .ok (.ifCond .ne 15, 3) := by decide +kernel
theorem dL_law_145 : decode cL_law 145 = .ok (.aload_n 3, 1) := by decide +kernel
theorem dL_law_146 : decode cL_law 146 = .ok (.iconst 0, 1) := by decide +kernel
theorem dL_law_147 : decode cL_law 147 = .ok (.laload, 1) := by decide +kernel
theorem dL_law_148 : decode cL_law 148 = .ok (.iload 6, 2) := by decide +kernel
theorem dL_law_150 : decode cL_law 150 = .ok (.i2l, 1) := by decide +kernel
theorem dL_law_151 : decode cL_law 151 = .ok (.lcmp, 1) := by decide +kernel
theorem dL_law_152 : decode cL_law 152 = .ok (.ifCond .eq 5, 3) := by decide +kernel
theorem dL_law_155 : decode cL_law 155 = .ok (.iconst 0, 1) := by decide +kernel
theorem dL_law_156 : decode cL_law 156 = .ok (.ireturn, 1) := by decide +kernel
theorem dL_law_157 : decode cL_law 157 = .ok (.goto 771, 3) := by decide +kernel
theorem dL_law_160 : decode cL_law 160 = .ok (.aload_n 1, 1) := by decide +kernel
theorem dL_law_161 : decode cL_law 161 = .ok (.aload_n 0, 1) := by decide +kernel
theorem dL_law_162 : decode cL_law 162 = .ok (.iload 4, 2) := by decide +kernel
theorem dL_law_164 : decode cL_law 164 = .ok (.iconst 1, 1) := by decide +kernel
theorem dL_law_165 : decode cL_law 165 = .ok (.iadd, 1) := by decide +kernel
theorem dL_law_166 : decode cL_law 166 = .ok (.iaload, 1) := by decide +kernel
theorem dL_law_167 : decode cL_law 167 = .ok (.invokestatic 73, 3) := by decide +kernel
theorem dL_law_170 : decode cL_law 170 = .ok (.istore 5, 2) := by decide +kernel
theorem dL_law_172 : decode cL_law 172 = .ok (.aload_n 2, 1) := by decide +kernel
theorem dL_law_173 : decode cL_law 173 = .ok (.aload_n 0, 1) := by decide +kernel
theorem dL_law_174 : decode cL_law 174 = .ok (.iload 4, 2) := by decide +kernel
theorem dL_law_176 : decode cL_law 176 = .ok (.iconst 1, 1) := by decide +kernel
theorem dL_law_177 : decode cL_law 177 = .ok (.iadd, 1) := by decide +kernel
theorem dL_law_178 : decode cL_law 178 = .ok (.iaload, 1) := by decide +kernel
theorem dL_law_179 : decode cL_law 179 = .ok (.invokevirtual 76, 3) := by decide +kernel
theorem dL_law_182 : decode cL_law 182 = .ok (.aload_n 2, 1) := by decide +kernel
theorem dL_law_183 : decode cL_law 183 = .ok (.invokevirtual 69, 3) := by decide +kernel
theorem dL_law_186 : decode cL_law 186 = .ok (.iload 5, 2) := by decide +kernel
theorem dL_law_188 : decode cL_law 188 = .ok (.if_icmp .eq 5, 3) := by decide +kernel
theorem dL_law_191 : decode cL_law 191 = .ok (.iconst 0, 1) := by decide +kernel
theorem dL_law_192 : decode cL_law 192 = .ok (.ireturn, 1) := by decide +kernel
theorem dL_law_193 : decode cL_law 193 = .ok (.goto 735, 3) := by decide +kernel
theorem dL_law_196 : decode cL_law 196 = .ok (.aload_n 1, 1) := by decide +kernel
theorem dL_law_197 : decode cL_law 197 = .ok (.aload_n 0, 1) := by decide +kernel
theorem dL_law_198 : decode cL_law 198 = .ok (.iload 4, 2) := by decide +kernel
theorem dL_law_200 : decode cL_law 200 = .ok (.iconst 1, 1) := by decide +kernel
theorem dL_law_201 : decode cL_law 201 = .ok (.iadd, 1) := by decide +kernel
theorem dL_law_202 : decode cL_law 202 = .ok (.iaload, 1) := by decide +kernel
theorem dL_law_203 : decode cL_law 203 = .ok (.aload_n 0, 1) := by decide +kernel
theorem dL_law_204 : decode cL_law 204 = .ok (.iload 4, 2) := by decide +kernel
theorem dL_law_206 : decode cL_law 206 = .ok (.iconst 2, 1) := by decide +kernel
theorem dL_law_207 : decode cL_law 207 = .ok (.iadd, 1) := by decide +kernel
theorem dL_law_208 : decode cL_law 208 = .ok (.iaload, 1) := by decide +kernel
theorem dL_law_209 : decode cL_law 209 = .ok (.aload_n 3, 1) := by decide +kernel
theorem dL_law_210 : decode cL_law 210 = .ok (.invokestatic 77, 3) := by decide +kernel
theorem dL_law_213 : decode cL_law 213 = .ok (.istore 5, 2) := by decide +kernel
theorem dL_law_215 : decode cL_law 215 = .ok (.aload_n 2, 1) := by decide +kernel
theorem dL_law_216 : decode cL_law 216 = .ok (.aload_n 0, 1) := by decide +kernel
theorem dL_law_217 : decode cL_law 217 = .ok (.iload 4, 2) := by decide +kernel
theorem dL_law_219 : decode cL_law 219 = .ok (.iconst 1, 1) := by decide +kernel
theorem dL_law_220 : decode cL_law 220 = .ok (.iadd, 1) := by decide +kernel
theorem dL_law_221 : decode cL_law 221 = .ok (.iaload, 1) := by decide +kernel
theorem dL_law_222 : decode cL_law 222 = .ok (.aload_n 0, 1) := by decide +kernel
theorem dL_law_223 : decode cL_law 223 = .ok (.iload 4, 2) := by decide +kernel
theorem dL_law_225 : decode cL_law 225 = .ok (.iconst 2, 1) := by decide +kernel
theorem dL_law_226 : decode cL_law 226 = .ok (.iadd, 1) := by decide +kernel
theorem dL_law_227 : decode cL_law 227 = .ok (.iaload, 1) := by decide +kernel
theorem dL_law_228 : decode cL_law 228 = .ok (.invokevirtual 80, 3) := by decide +kernel
theorem dL_law_231 : decode cL_law 231 = .ok (.istore 6, 2) := by decide +kernel
theorem dL_law_233 : decode cL_law 233 = .ok (.aload_n 2, 1) := by decide +kernel
theorem dL_law_234 : decode cL_law 234 = .ok (.invokevirtual 69, 3) := by decide +kernel
theorem dL_law_237 : decode cL_law 237 = .ok (.iload 5, 2) := by decide +kernel
theorem dL_law_239 : decode cL_law 239 = .ok (.if_icmp .eq 5, 3) := by decide +kernel
theorem dL_law_242 : decode cL_law 242 = .ok (.iconst 0, 1) := by decide +kernel
theorem dL_law_243 : decode cL_law 243 = .ok (.ireturn, 1) := by decide +kernel
theorem dL_law_244 : decode cL_law 244 = .ok (.iload 5, 2) := by decide +kernel
theorem dL_law_246 : decode cL_law 246 = .ok (.ifCond .ne 15, 3) := by decide +kernel
theorem dL_law_249 : decode cL_law 249 = .ok (.aload_n 3, 1) := by decide +kernel
theorem dL_law_250 : decode cL_law 250 = .ok (.iconst 0, 1) := by decide +kernel
theorem dL_law_251 : decode cL_law 251 = .ok (.laload, 1) := by decide +kernel
theorem dL_law_252 : decode cL_law 252 = .ok (.iload 6, 2) := by decide +kernel
theorem dL_law_254 : decode cL_law 254 = .ok (.i2l, 1) := by decide +kernel
theorem dL_law_255 : decode cL_law 255 = .ok (.lcmp, 1) := by decide +kernel
theorem dL_law_256 : decode cL_law 256 = .ok (.ifCond .eq 5, 3) := by decide +kernel
theorem dL_law_259 : decode cL_law 259 = .ok (.iconst 0, 1) := by decide +kernel
theorem dL_law_260 : decode cL_law 260 = .ok (.ireturn, 1) := by decide +kernel
theorem dL_law_261 : decode cL_law 261 = .ok (.goto 667, 3) := by decide +kernel
theorem dL_law_264 : decode cL_law 264 = .ok (.aload_n 1, 1) := by decide +kernel
theorem dL_law_265 : decode cL_law 265 = .ok (.aload_n 0, 1) := by decide +kernel
theorem dL_law_266 : decode cL_law 266 = .ok (.iload 4, 2) := by decide +kernel
theorem dL_law_268 : decode cL_law 268 = .ok (.iconst 1, 1) := by decide +kernel
theorem dL_law_269 : decode cL_law 269 = .ok (.iadd, 1) := by decide +kernel
theorem dL_law_270 : decode cL_law 270 = .ok (.iaload, 1) := by decide +kernel
theorem dL_law_271 : decode cL_law 271 = .ok (.aload_n 3, 1) := by decide +kernel
theorem dL_law_272 : decode cL_law 272 = .ok (.invokestatic 81, 3) := by decide +kernel
theorem dL_law_275 : decode cL_law 275 = .ok (.istore 5, 2) := by decide +kernel
theorem dL_law_277 : decode cL_law 277 = .ok (.aload_n 2, 1) := by decide +kernel
theorem dL_law_278 : decode cL_law 278 = .ok (.aload_n 0, 1) := by decide +kernel
theorem dL_law_279 : decode cL_law 279 = .ok (.iload 4, 2) := by decide +kernel
theorem dL_law_281 : decode cL_law 281 = .ok (.iconst 1, 1) := by decide +kernel
theorem dL_law_282 : decode cL_law 282 = .ok (.iadd, 1) := by decide +kernel
theorem dL_law_283 : decode cL_law 283 = .ok (.iaload, 1) := by decide +kernel
theorem dL_law_284 : decode cL_law 284 = .ok (.invokevirtual 83, 3) := by decide +kernel
theorem dL_law_287 : decode cL_law 287 = .ok (.istore 6, 2) := by decide +kernel
theorem dL_law_289 : decode cL_law 289 = .ok (.aload_n 2, 1) := by decide +kernel
theorem dL_law_290 : decode cL_law 290 = .ok (.invokevirtual 69, 3) := by decide +kernel
theorem dL_law_293 : decode cL_law 293 = .ok (.iload 5, 2) := by decide +kernel
theorem dL_law_295 : decode cL_law 295 = .ok (.if_icmp .eq 5, 3) := by decide +kernel
theorem dL_law_298 : decode cL_law 298 = .ok (.iconst 0, 1) := by decide +kernel
theorem dL_law_299 : decode cL_law 299 = .ok (.ireturn, 1) := by decide +kernel
theorem dL_law_300 : decode cL_law 300 = .ok (.iload 5, 2) := by decide +kernel
theorem dL_law_302 : decode cL_law 302 = .ok (.ifCond .ne 15, 3) := by decide +kernel
theorem dL_law_305 : decode cL_law 305 = .ok (.aload_n 3, 1) := by decide +kernel
theorem dL_law_306 : decode cL_law 306 = .ok (.iconst 0, 1) := by decide +kernel
theorem dL_law_307 : decode cL_law 307 = .ok (.laload, 1) := by decide +kernel
theorem dL_law_308 : decode cL_law 308 = .ok (.iload 6, 2) := by decide +kernel
theorem dL_law_310 : decode cL_law 310 = .ok (.i2l, 1) := by decide +kernel
theorem dL_law_311 : decode cL_law 311 = .ok (.lcmp, 1) := by decide +kernel
theorem dL_law_312 : decode cL_law 312 = .ok (.ifCond .eq 5, 3) := by decide +kernel
theorem dL_law_315 : decode cL_law 315 = .ok (.iconst 0, 1) := by decide +kernel
theorem dL_law_316 : decode cL_law 316 = .ok (.ireturn, 1) := by decide +kernel
theorem dL_law_317 : decode cL_law 317 = .ok (.goto 611, 3) := by decide +kernel
theorem dL_law_320 : decode cL_law 320 = .ok (.aload_n 1, 1) := by decide +kernel
theorem dL_law_321 : decode cL_law 321 = .ok (.aload_n 0, 1) := by decide +kernel
theorem dL_law_322 : decode cL_law 322 = .ok (.iload 4, 2) := by decide +kernel
theorem dL_law_324 : decode cL_law 324 = .ok (.iconst 1, 1) := by decide +kernel
theorem dL_law_325 : decode cL_law 325 = .ok (.iadd, 1) := by decide +kernel
theorem dL_law_326 : decode cL_law 326 = .ok (.iaload, 1) := by decide +kernel
theorem dL_law_327 : decode cL_law 327 = .ok (.aload_n 0, 1) := by decide +kernel
theorem dL_law_328 : decode cL_law 328 = .ok (.iload 4, 2) := by decide +kernel
theorem dL_law_330 : decode cL_law 330 = .ok (.iconst 2, 1) := by decide +kernel
theorem dL_law_331 : decode cL_law 331 = .ok (.iadd, 1) := by decide +kernel
theorem dL_law_332 : decode cL_law 332 = .ok (.iaload, 1) := by decide +kernel
theorem dL_law_333 : decode cL_law 333 = .ok (.aload_n 3, 1) := by decide +kernel
theorem dL_law_334 : decode cL_law 334 = .ok (.invokestatic 84, 3) := by decide +kernel
theorem dL_law_337 : decode cL_law 337 = .ok (.istore 5, 2) := by decide +kernel
theorem dL_law_339 : decode cL_law 339 = .ok (.aload_n 2, 1) := by decide +kernel
theorem dL_law_340 : decode cL_law 340 = .ok (.aload_n 0, 1) := by decide +kernel
theorem dL_law_341 : decode cL_law 341 = .ok (.iload 4, 2) := by decide +kernel
theorem dL_law_343 : decode cL_law 343 = .ok (.iconst 1, 1) := by decide +kernel
theorem dL_law_344 : decode cL_law 344 = .ok (.iadd, 1) := by decide +kernel
theorem dL_law_345 : decode cL_law 345 = .ok (.iaload, 1) := by decide +kernel
theorem dL_law_346 : decode cL_law 346 = .ok (.aload_n 0, 1) := by decide +kernel
theorem dL_law_347 : decode cL_law 347 = .ok (.iload 4, 2) := by decide +kernel
theorem dL_law_349 : decode cL_law 349 = .ok (.iconst 2, 1) := by decide +kernel
theorem dL_law_350 : decode cL_law 350 = .ok (.iadd, 1) := by decide +kernel
theorem dL_law_351 : decode cL_law 351 = .ok (.iaload, 1) := by decide +kernel
theorem dL_law_352 : decode cL_law 352 = .ok (.invokevirtual 86, 3) := by decide +kernel
theorem dL_law_355 : decode cL_law 355 = .ok (.istore 6, 2) := by decide +kernel
theorem dL_law_357 : decode cL_law 357 = .ok (.aload_n 2, 1) := by decide +kernel
theorem dL_law_358 : decode cL_law 358 = .ok (.invokevirtual 69, 3) := by decide +kernel
theorem dL_law_361 : decode cL_law 361 = .ok (.iload 5, 2) := by decide +kernel
theorem dL_law_363 : decode cL_law 363 = .ok (.if_icmp .eq 5, 3) := by decide +kernel
theorem dL_law_366 : decode cL_law 366 = .ok (.iconst 0, 1) := by decide +kernel
theorem dL_law_367 : decode cL_law 367 = .ok (.ireturn, 1) := by decide +kernel
theorem dL_law_368 : decode cL_law 368 = .ok (.iload 5, 2) := by decide +kernel
theorem dL_law_370 : decode cL_law 370 = .ok (.ifCond .ne 15, 3) := by decide +kernel
theorem dL_law_373 : decode cL_law 373 = .ok (.aload_n 3, 1) := by decide +kernel
theorem dL_law_374 : decode cL_law 374 = .ok (.iconst 0, 1) := by decide +kernel
theorem dL_law_375 : decode cL_law 375 = .ok (.laload, 1) := by decide +kernel
theorem dL_law_376 : decode cL_law 376 = .ok (.iload 6, 2) := by decide +kernel
theorem dL_law_378 : decode cL_law 378 = .ok (.i2l, 1) := by decide +kernel
theorem dL_law_379 : decode cL_law 379 = .ok (.lcmp, 1) := by decide +kernel
theorem dL_law_380 : decode cL_law 380 = .ok (.ifCond .eq 5, 3) := by decide +kernel
theorem dL_law_383 : decode cL_law 383 = .ok (.iconst 0, 1) := by decide +kernel
theorem dL_law_384 : decode cL_law 384 = .ok (.ireturn, 1) := by decide +kernel
theorem dL_law_385 : decode cL_law 385 = .ok (.goto 543, 3) := by decide +kernel
theorem dL_law_388 : decode cL_law 388 = .ok (.aload_n 1, 1) := by decide +kernel
theorem dL_law_389 : decode cL_law 389 = .ok (.aload_n 0, 1) := by decide +kernel
theorem dL_law_390 : decode cL_law 390 = .ok (.iload 4, 2) := by decide +kernel
theorem dL_law_392 : decode cL_law 392 = .ok (.iconst 1, 1) := by decide +kernel
theorem dL_law_393 : decode cL_law 393 = .ok (.iadd, 1) := by decide +kernel
theorem dL_law_394 : decode cL_law 394 = .ok (.iaload, 1) := by decide +kernel
theorem dL_law_395 : decode cL_law 395 = .ok (.aload_n 0, 1) := by decide +kernel
theorem dL_law_396 : decode cL_law 396 = .ok (.iload 4, 2) := by decide +kernel
theorem dL_law_398 : decode cL_law 398 = .ok (.iconst 2, 1) := by decide +kernel
theorem dL_law_399 : decode cL_law 399 = .ok (.iadd, 1) := by decide +kernel
theorem dL_law_400 : decode cL_law 400 = .ok (.iaload, 1) := by decide +kernel
theorem dL_law_401 : decode cL_law 401 = .ok (.aload_n 3, 1) := by decide +kernel
theorem dL_law_402 : decode cL_law 402 = .ok (.invokestatic 87, 3) := by decide +kernel
theorem dL_law_405 : decode cL_law 405 = .ok (.istore 5, 2) := by decide +kernel
theorem dL_law_407 : decode cL_law 407 = .ok (.aload_n 2, 1) := by decide +kernel
theorem dL_law_408 : decode cL_law 408 = .ok (.aload_n 0, 1) := by decide +kernel
theorem dL_law_409 : decode cL_law 409 = .ok (.iload 4, 2) := by decide +kernel
theorem dL_law_411 : decode cL_law 411 = .ok (.iconst 1, 1) := by decide +kernel
theorem dL_law_412 : decode cL_law 412 = .ok (.iadd, 1) := by decide +kernel
theorem dL_law_413 : decode cL_law 413 = .ok (.iaload, 1) := by decide +kernel
theorem dL_law_414 : decode cL_law 414 = .ok (.aload_n 0, 1) := by decide +kernel
theorem dL_law_415 : decode cL_law 415 = .ok (.iload 4, 2) := by decide +kernel
theorem dL_law_417 : decode cL_law 417 = .ok (.iconst 2, 1) := by decide +kernel
theorem dL_law_418 : decode cL_law 418 = .ok (.iadd, 1) := by decide +kernel
theorem dL_law_419 : decode cL_law 419 = .ok (.iaload, 1) := by decide +kernel
theorem dL_law_420 : decode cL_law 420 = .ok (.invokevirtual 89, 3) := by decide +kernel
theorem dL_law_423 : decode cL_law 423 = .ok (.istore 6, 2) := by decide +kernel
theorem dL_law_425 : decode cL_law 425 = .ok (.aload_n 2, 1) := by decide +kernel
theorem dL_law_426 : decode cL_law 426 = .ok (.invokevirtual 69, 3) := by decide +kernel
theorem dL_law_429 : decode cL_law 429 = .ok (.iload 5, 2) := by decide +kernel
theorem dL_law_431 : decode cL_law 431 = .ok (.if_icmp .eq 5, 3) := by decide +kernel
theorem dL_law_434 : decode cL_law 434 = .ok (.iconst 0, 1) := by decide +kernel
theorem dL_law_435 : decode cL_law 435 = .ok (.ireturn, 1) := by decide +kernel
theorem dL_law_436 : decode cL_law 436 = .ok (.iload 5, 2) := by decide +kernel
theorem dL_law_438 : decode cL_law 438 = .ok (.ifCond .ne 15, 3) := by decide +kernel
theorem dL_law_441 : decode cL_law 441 = .ok (.aload_n 3, 1) := by decide +kernel
theorem dL_law_442 : decode cL_law 442 = .ok (.iconst 0, 1) := by decide +kernel
theorem dL_law_443 : decode cL_law 443 = .ok (.laload, 1) := by decide +kernel
theorem dL_law_444 : decode cL_law 444 = .ok (.iload 6, 2) := by decide +kernel
theorem dL_law_446 : decode cL_law 446 = .ok (.i2l, 1) := by decide +kernel
theorem dL_law_447 : decode cL_law 447 = .ok (.lcmp, 1) := by decide +kernel
theorem dL_law_448 : decode cL_law 448 = .ok (.ifCond .eq 5, 3) := by decide +kernel
theorem dL_law_451 : decode cL_law 451 = .ok (.iconst 0, 1) := by decide +kernel
theorem dL_law_452 : decode cL_law 452 = .ok (.ireturn, 1) := by decide +kernel
theorem dL_law_453 : decode cL_law 453 = .ok (.goto 475, 3) := by decide +kernel
theorem dL_law_456 : decode cL_law 456 = .ok (.aload_n 1, 1) := by decide +kernel
theorem dL_law_457 : decode cL_law 457 = .ok (.aload_n 0, 1) := by decide +kernel
theorem dL_law_458 : decode cL_law 458 = .ok (.iload 4, 2) := by decide +kernel
theorem dL_law_460 : decode cL_law 460 = .ok (.iconst 1, 1) := by decide +kernel
theorem dL_law_461 : decode cL_law 461 = .ok (.iadd, 1) := by decide +kernel
theorem dL_law_462 : decode cL_law 462 = .ok (.iaload, 1) := by decide +kernel
theorem dL_law_463 : decode cL_law 463 = .ok (.aload_n 3, 1) := by decide +kernel
theorem dL_law_464 : decode cL_law 464 = .ok (.invokestatic 90, 3) := by decide +kernel
theorem dL_law_467 : decode cL_law 467 = .ok (.istore 5, 2) := by decide +kernel
theorem dL_law_469 : decode cL_law 469 = .ok (.aload_n 2, 1) := by decide +kernel
theorem dL_law_470 : decode cL_law 470 = .ok (.aload_n 0, 1) := by decide +kernel
theorem dL_law_471 : decode cL_law 471 = .ok (.iload 4, 2) := by decide +kernel
theorem dL_law_473 : decode cL_law 473 = .ok (.iconst 1, 1) := by decide +kernel
theorem dL_law_474 : decode cL_law 474 = .ok (.iadd, 1) := by decide +kernel
theorem dL_law_475 : decode cL_law 475 = .ok (.iaload, 1) := by decide +kernel
theorem dL_law_476 : decode cL_law 476 = .ok (.invokevirtual 92, 3) := by decide +kernel
theorem dL_law_479 : decode cL_law 479 = .ok (.istore 6, 2) := by decide +kernel
theorem dL_law_481 : decode cL_law 481 = .ok (.aload_n 2, 1) := by decide +kernel
theorem dL_law_482 : decode cL_law 482 = .ok (.invokevirtual 69, 3) := by decide +kernel
theorem dL_law_485 : decode cL_law 485 = .ok (.iload 5, 2) := by decide +kernel
theorem dL_law_487 : decode cL_law 487 = .ok (.if_icmp .eq 5, 3) := by decide +kernel
theorem dL_law_490 : decode cL_law 490 = .ok (.iconst 0, 1) := by decide +kernel
theorem dL_law_491 : decode cL_law 491 = .ok (.ireturn, 1) := by decide +kernel
theorem dL_law_492 : decode cL_law 492 = .ok (.iload 5, 2) := by decide +kernel
theorem dL_law_494 : decode cL_law 494 = .ok (.ifCond .ne 15, 3) := by decide +kernel
theorem dL_law_497 : decode cL_law 497 = .ok (.aload_n 3, 1) := by decide +kernel
theorem dL_law_498 : decode cL_law 498 = .ok (.iconst 0, 1) := by decide +kernel
theorem dL_law_499 : decode cL_law 499 = .ok (.laload, 1) := by decide +kernel
theorem dL_law_500 : decode cL_law 500 = .ok (.iload 6, 2) := by decide +kernel
theorem dL_law_502 : decode cL_law 502 = .ok (.i2l, 1) := by decide +kernel
theorem dL_law_503 : decode cL_law 503 = .ok (.lcmp, 1) := by decide +kernel
theorem dL_law_504 : decode cL_law 504 = .ok (.ifCond .eq 5, 3) := by decide +kernel
theorem dL_law_507 : decode cL_law 507 = .ok (.iconst 0, 1) := by decide +kernel
theorem dL_law_508 : decode cL_law 508 = .ok (.ireturn, 1) := by decide +kernel
theorem dL_law_509 : decode cL_law 509 = .ok (.goto 419, 3) := by decide +kernel
theorem dL_law_512 : decode cL_law 512 = .ok (.aload_n 1, 1) := by decide +kernel
theorem dL_law_513 : decode cL_law 513 = .ok (.aload_n 0, 1) := by decide +kernel
theorem dL_law_514 : decode cL_law 514 = .ok (.iload 4, 2) := by decide +kernel
theorem dL_law_516 : decode cL_law 516 = .ok (.iconst 1, 1) := by decide +kernel
theorem dL_law_517 : decode cL_law 517 = .ok (.iadd, 1) := by decide +kernel
theorem dL_law_518 : decode cL_law 518 = .ok (.iaload, 1) := by decide +kernel
theorem dL_law_519 : decode cL_law 519 = .ok (.aload_n 0, 1) := by decide +kernel
theorem dL_law_520 : decode cL_law 520 = .ok (.iload 4, 2) := by decide +kernel
theorem dL_law_522 : decode cL_law 522 = .ok (.iconst 2, 1) := by decide +kernel
theorem dL_law_523 : decode cL_law 523 = .ok (.iadd, 1) := by decide +kernel
theorem dL_law_524 : decode cL_law 524 = .ok (.iaload, 1) := by decide +kernel
theorem dL_law_525 : decode cL_law 525 = .ok (.aload_n 0, 1) := by decide +kernel
theorem dL_law_526 : decode cL_law 526 = .ok (.iload 4, 2) := by decide +kernel
theorem dL_law_528 : decode cL_law 528 = .ok (.iconst 3, 1) := by decide +kernel
theorem dL_law_529 : decode cL_law 529 = .ok (.iadd, 1) := by decide +kernel
theorem dL_law_530 : decode cL_law 530 = .ok (.iaload, 1) := by decide +kernel
theorem dL_law_531 : decode cL_law 531 = .ok (.aload_n 3, 1) := by decide +kernel
theorem dL_law_532 : decode cL_law 532 = .ok (.invokestatic 93, 3) := by decide +kernel
theorem dL_law_535 : decode cL_law 535 = .ok (.istore 5, 2) := by decide +kernel
theorem dL_law_537 : decode cL_law 537 = .ok (.aload_n 2, 1) := by decide +kernel
theorem dL_law_538 : decode cL_law 538 = .ok (.aload_n 0, 1) := by decide +kernel
theorem dL_law_539 : decode cL_law 539 = .ok (.iload 4, 2) := by decide +kernel
theorem dL_law_541 : decode cL_law 541 = .ok (.iconst 1, 1) := by decide +kernel
theorem dL_law_542 : decode cL_law 542 = .ok (.iadd, 1) := by decide +kernel
theorem dL_law_543 : decode cL_law 543 = .ok (.iaload, 1) := by decide +kernel
theorem dL_law_544 : decode cL_law 544 = .ok (.aload_n 0, 1) := by decide +kernel
theorem dL_law_545 : decode cL_law 545 = .ok (.iload 4, 2) := by decide +kernel
theorem dL_law_547 : decode cL_law 547 = .ok (.iconst 2, 1) := by decide +kernel
theorem dL_law_548 : decode cL_law 548 = .ok (.iadd, 1) := by decide +kernel
theorem dL_law_549 : decode cL_law 549 = .ok (.iaload, 1) := by decide +kernel
theorem dL_law_550 : decode cL_law 550 = .ok (.aload_n 0, 1) := by decide +kernel
theorem dL_law_551 : decode cL_law 551 = .ok (.iload 4, 2) := by decide +kernel
theorem dL_law_553 : decode cL_law 553 = .ok (.iconst 3, 1) := by decide +kernel
theorem dL_law_554 : decode cL_law 554 = .ok (.iadd, 1) := by decide +kernel
theorem dL_law_555 : decode cL_law 555 = .ok (.iaload, 1) := by decide +kernel
theorem dL_law_556 : decode cL_law 556 = .ok (.invokevirtual 96, 3) := by decide +kernel
theorem dL_law_559 : decode cL_law 559 = .ok (.istore 6, 2) := by decide +kernel
theorem dL_law_561 : decode cL_law 561 = .ok (.aload_n 2, 1) := by decide +kernel
theorem dL_law_562 : decode cL_law 562 = .ok (.invokevirtual 69, 3) := by decide +kernel
theorem dL_law_565 : decode cL_law 565 = .ok (.iload 5, 2) := by decide +kernel
theorem dL_law_567 : decode cL_law 567 = .ok (.if_icmp .eq 5, 3) := by decide +kernel
theorem dL_law_570 : decode cL_law 570 = .ok (.iconst 0, 1) := by decide +kernel
theorem dL_law_571 : decode cL_law 571 = .ok (.ireturn, 1) := by decide +kernel
theorem dL_law_572 : decode cL_law 572 = .ok (.iload 5, 2) := by decide +kernel
theorem dL_law_574 : decode cL_law 574 = .ok (.ifCond .ne 15, 3) := by decide +kernel
theorem dL_law_577 : decode cL_law 577 = .ok (.aload_n 3, 1) := by decide +kernel
theorem dL_law_578 : decode cL_law 578 = .ok (.iconst 0, 1) := by decide +kernel
theorem dL_law_579 : decode cL_law 579 = .ok (.laload, 1) := by decide +kernel
theorem dL_law_580 : decode cL_law 580 = .ok (.iload 6, 2) := by decide +kernel
theorem dL_law_582 : decode cL_law 582 = .ok (.i2l, 1) := by decide +kernel
theorem dL_law_583 : decode cL_law 583 = .ok (.lcmp, 1) := by decide +kernel
theorem dL_law_584 : decode cL_law 584 = .ok (.ifCond .eq 5, 3) := by decide +kernel
theorem dL_law_587 : decode cL_law 587 = .ok (.iconst 0, 1) := by decide +kernel
theorem dL_law_588 : decode cL_law 588 = .ok (.ireturn, 1) := by decide +kernel
theorem dL_law_589 : decode cL_law 589 = .ok (.goto 339, 3) := by decide +kernel
theorem dL_law_592 : decode cL_law 592 = .ok (.aload_n 1, 1) := by decide +kernel
theorem dL_law_593 : decode cL_law 593 = .ok (.aload_n 0, 1) := by decide +kernel
theorem dL_law_594 : decode cL_law 594 = .ok (.iload 4, 2) := by decide +kernel
theorem dL_law_596 : decode cL_law 596 = .ok (.iconst 1, 1) := by decide +kernel
theorem dL_law_597 : decode cL_law 597 = .ok (.iadd, 1) := by decide +kernel
theorem dL_law_598 : decode cL_law 598 = .ok (.iaload, 1) := by decide +kernel
theorem dL_law_599 : decode cL_law 599 = .ok (.aload_n 0, 1) := by decide +kernel
theorem dL_law_600 : decode cL_law 600 = .ok (.iload 4, 2) := by decide +kernel
theorem dL_law_602 : decode cL_law 602 = .ok (.iconst 2, 1) := by decide +kernel
theorem dL_law_603 : decode cL_law 603 = .ok (.iadd, 1) := by decide +kernel
theorem dL_law_604 : decode cL_law 604 = .ok (.iaload, 1) := by decide +kernel
theorem dL_law_605 : decode cL_law 605 = .ok (.aload_n 0, 1) := by decide +kernel
theorem dL_law_606 : decode cL_law 606 = .ok (.iload 4, 2) := by decide +kernel
theorem dL_law_608 : decode cL_law 608 = .ok (.iconst 3, 1) := by decide +kernel
theorem dL_law_609 : decode cL_law 609 = .ok (.iadd, 1) := by decide +kernel
theorem dL_law_610 : decode cL_law 610 = .ok (.iaload, 1) := by decide +kernel
theorem dL_law_611 : decode cL_law 611 = .ok (.ifCond .eq 7, 3) := by decide +kernel
theorem dL_law_614 : decode cL_law 614 = .ok (.iconst 1, 1) := by decide +kernel
theorem dL_law_615 : decode cL_law 615 = .ok (.goto 4, 3) := by decide +kernel
theorem dL_law_618 : decode cL_law 618 = .ok (.iconst 0, 1) := by decide +kernel
theorem dL_law_619 : decode cL_law 619 = .ok (.invokestatic 97, 3) := by decide +kernel
theorem dL_law_622 : decode cL_law 622 = .ok (.istore 5, 2) := by decide +kernel
theorem dL_law_624 : decode cL_law 624 = .ok (.aload_n 2, 1) := by decide +kernel
theorem dL_law_625 : decode cL_law 625 = .ok (.aload_n 0, 1) := by decide +kernel
theorem dL_law_626 : decode cL_law 626 = .ok (.iload 4, 2) := by decide +kernel
theorem dL_law_628 : decode cL_law 628 = .ok (.iconst 1, 1) := by decide +kernel
theorem dL_law_629 : decode cL_law 629 = .ok (.iadd, 1) := by decide +kernel
theorem dL_law_630 : decode cL_law 630 = .ok (.iaload, 1) := by decide +kernel
theorem dL_law_631 : decode cL_law 631 = .ok (.aload_n 0, 1) := by decide +kernel
theorem dL_law_632 : decode cL_law 632 = .ok (.iload 4, 2) := by decide +kernel
theorem dL_law_634 : decode cL_law 634 = .ok (.iconst 2, 1) := by decide +kernel
theorem dL_law_635 : decode cL_law 635 = .ok (.iadd, 1) := by decide +kernel
theorem dL_law_636 : decode cL_law 636 = .ok (.iaload, 1) := by decide +kernel
theorem dL_law_637 : decode cL_law 637 = .ok (.aload_n 0, 1) := by decide +kernel
theorem dL_law_638 : decode cL_law 638 = .ok (.iload 4, 2) := by decide +kernel
theorem dL_law_640 : decode cL_law 640 = .ok (.iconst 3, 1) := by decide +kernel
theorem dL_law_641 : decode cL_law 641 = .ok (.iadd, 1) := by decide +kernel
theorem dL_law_642 : decode cL_law 642 = .ok (.iaload, 1) := by decide +kernel
theorem dL_law_643 : decode cL_law 643 = .ok (.ifCond .eq 7, 3) := by decide +kernel
theorem dL_law_646 : decode cL_law 646 = .ok (.iconst 1, 1) := by decide +kernel
theorem dL_law_647 : decode cL_law 647 = .ok (.goto 4, 3) := by decide +kernel
theorem dL_law_650 : decode cL_law 650 = .ok (.iconst 0, 1) := by decide +kernel
theorem dL_law_651 : decode cL_law 651 = .ok (.invokevirtual 100, 3) := by decide +kernel
theorem dL_law_654 : decode cL_law 654 = .ok (.aload_n 2, 1) := by decide +kernel
theorem dL_law_655 : decode cL_law 655 = .ok (.invokevirtual 69, 3) := by decide +kernel
theorem dL_law_658 : decode cL_law 658 = .ok (.iload 5, 2) := by decide +kernel
theorem dL_law_660 : decode cL_law 660 = .ok (.if_icmp .eq 5, 3) := by decide +kernel
theorem dL_law_663 : decode cL_law 663 = .ok (.iconst 0, 1) := by decide +kernel
theorem dL_law_664 : decode cL_law 664 = .ok (.ireturn, 1) := by decide +kernel
theorem dL_law_665 : decode cL_law 665 = .ok (.goto 263, 3) := by decide +kernel
theorem dL_law_668 : decode cL_law 668 = .ok (.aload_n 1, 1) := by decide +kernel
theorem dL_law_669 : decode cL_law 669 = .ok (.aload_n 0, 1) := by decide +kernel
theorem dL_law_670 : decode cL_law 670 = .ok (.iload 4, 2) := by decide +kernel
theorem dL_law_672 : decode cL_law 672 = .ok (.iconst 1, 1) := by decide +kernel
theorem dL_law_673 : decode cL_law 673 = .ok (.iadd, 1) := by decide +kernel
theorem dL_law_674 : decode cL_law 674 = .ok (.iaload, 1) := by decide +kernel
theorem dL_law_675 : decode cL_law 675 = .ok (.aload_n 0, 1) := by decide +kernel
theorem dL_law_676 : decode cL_law 676 = .ok (.iload 4, 2) := by decide +kernel
theorem dL_law_678 : decode cL_law 678 = .ok (.iconst 2, 1) := by decide +kernel
theorem dL_law_679 : decode cL_law 679 = .ok (.iadd, 1) := by decide +kernel
theorem dL_law_680 : decode cL_law 680 = .ok (.iaload, 1) := by decide +kernel
theorem dL_law_681 : decode cL_law 681 = .ok (.aload_n 3, 1) := by decide +kernel
theorem dL_law_682 : decode cL_law 682 = .ok (.invokestatic 101, 3) := by decide +kernel
theorem dL_law_685 : decode cL_law 685 = .ok (.istore 5, 2) := by decide +kernel
theorem dL_law_687 : decode cL_law 687 = .ok (.aload_n 2, 1) := by decide +kernel
theorem dL_law_688 : decode cL_law 688 = .ok (.aload_n 0, 1) := by decide +kernel
theorem dL_law_689 : decode cL_law 689 = .ok (.iload 4, 2) := by decide +kernel
theorem dL_law_691 : decode cL_law 691 = .ok (.iconst 1, 1) := by decide +kernel
theorem dL_law_692 : decode cL_law 692 = .ok (.iadd, 1) := by decide +kernel
theorem dL_law_693 : decode cL_law 693 = .ok (.iaload, 1) := by decide +kernel
theorem dL_law_694 : decode cL_law 694 = .ok (.aload_n 0, 1) := by decide +kernel
theorem dL_law_695 : decode cL_law 695 = .ok (.iload 4, 2) := by decide +kernel
theorem dL_law_697 : decode cL_law 697 = .ok (.iconst 2, 1) := by decide +kernel
theorem dL_law_698 : decode cL_law 698 = .ok (.iadd, 1) := by decide +kernel
theorem dL_law_699 : decode cL_law 699 = .ok (.iaload, 1) := by decide +kernel
theorem dL_law_700 : decode cL_law 700 = .ok (.invokevirtual 103, 3) := by decide +kernel
theorem dL_law_703 : decode cL_law 703 = .ok (.istore 6, 2) := by decide +kernel
theorem dL_law_705 : decode cL_law 705 = .ok (.aload_n 2, 1) := by decide +kernel
theorem dL_law_706 : decode cL_law 706 = .ok (.invokevirtual 69, 3) := by decide +kernel
theorem dL_law_709 : decode cL_law 709 = .ok (.iload 5, 2) := by decide +kernel
theorem dL_law_711 : decode cL_law 711 = .ok (.if_icmp .eq 5, 3) := by decide +kernel
theorem dL_law_714 : decode cL_law 714 = .ok (.iconst 0, 1) := by decide +kernel
theorem dL_law_715 : decode cL_law 715 = .ok (.ireturn, 1) := by decide +kernel
theorem dL_law_716 : decode cL_law 716 = .ok (.iload 5, 2) := by decide +kernel
theorem dL_law_718 : decode cL_law 718 = .ok (.ifCond .ne 15, 3) := by decide +kernel
theorem dL_law_721 : decode cL_law 721 = .ok (.aload_n 3, 1) := by decide +kernel
theorem dL_law_722 : decode cL_law 722 = .ok (.iconst 0, 1) := by decide +kernel
theorem dL_law_723 : decode cL_law 723 = .ok (.laload, 1) := by decide +kernel
theorem dL_law_724 : decode cL_law 724 = .ok (.iload 6, 2) := by decide +kernel
theorem dL_law_726 : decode cL_law 726 = .ok (.i2l, 1) := by decide +kernel
theorem dL_law_727 : decode cL_law 727 = .ok (.lcmp, 1) := by decide +kernel
theorem dL_law_728 : decode cL_law 728 = .ok (.ifCond .eq 5, 3) := by decide +kernel
theorem dL_law_731 : decode cL_law 731 = .ok (.iconst 0, 1) := by decide +kernel
theorem dL_law_732 : decode cL_law 732 = .ok (.ireturn, 1) := by decide +kernel
theorem dL_law_733 : decode cL_law 733 = .ok (.goto 195, 3) := by decide +kernel
theorem dL_law_736 : decode cL_law 736 = .ok (.aload_n 1, 1) := by decide +kernel
theorem dL_law_737 : decode cL_law 737 = .ok (.aload_n 0, 1) := by decide +kernel
theorem dL_law_738 : decode cL_law 738 = .ok (.iload 4, 2) := by decide +kernel
theorem dL_law_740 : decode cL_law 740 = .ok (.iconst 1, 1) := by decide +kernel
theorem dL_law_741 : decode cL_law 741 = .ok (.iadd, 1) := by decide +kernel
theorem dL_law_742 : decode cL_law 742 = .ok (.iaload, 1) := by decide +kernel
theorem dL_law_743 : decode cL_law 743 = .ok (.aload_n 0, 1) := by decide +kernel
theorem dL_law_744 : decode cL_law 744 = .ok (.iload 4, 2) := by decide +kernel
theorem dL_law_746 : decode cL_law 746 = .ok (.iconst 2, 1) := by decide +kernel
theorem dL_law_747 : decode cL_law 747 = .ok (.iadd, 1) := by decide +kernel
theorem dL_law_748 : decode cL_law 748 = .ok (.iaload, 1) := by decide +kernel
theorem dL_law_749 : decode cL_law 749 = .ok (.aload_n 3, 1) := by decide +kernel
theorem dL_law_750 : decode cL_law 750 = .ok (.invokestatic 104, 3) := by decide +kernel
theorem dL_law_753 : decode cL_law 753 = .ok (.istore 5, 2) := by decide +kernel
theorem dL_law_755 : decode cL_law 755 = .ok (.aload_n 2, 1) := by decide +kernel
theorem dL_law_756 : decode cL_law 756 = .ok (.aload_n 0, 1) := by decide +kernel
theorem dL_law_757 : decode cL_law 757 = .ok (.iload 4, 2) := by decide +kernel
theorem dL_law_759 : decode cL_law 759 = .ok (.iconst 1, 1) := by decide +kernel
theorem dL_law_760 : decode cL_law 760 = .ok (.iadd, 1) := by decide +kernel
theorem dL_law_761 : decode cL_law 761 = .ok (.iaload, 1) := by decide +kernel
theorem dL_law_762 : decode cL_law 762 = .ok (.aload_n 0, 1) := by decide +kernel
theorem dL_law_763 : decode cL_law 763 = .ok (.iload 4, 2) := by decide +kernel
theorem dL_law_765 : decode cL_law 765 = .ok (.iconst 2, 1) := by decide +kernel
theorem dL_law_766 : decode cL_law 766 = .ok (.iadd, 1) := by decide +kernel
theorem dL_law_767 : decode cL_law 767 = .ok (.iaload, 1) := by decide +kernel
theorem dL_law_768 : decode cL_law 768 = .ok (.invokevirtual 106, 3) := by decide +kernel
theorem dL_law_771 : decode cL_law 771 = .ok (.istore 6, 2) := by decide +kernel
theorem dL_law_773 : decode cL_law 773 = .ok (.aload_n 2, 1) := by decide +kernel
theorem dL_law_774 : decode cL_law 774 = .ok (.invokevirtual 69, 3) := by decide +kernel
theorem dL_law_777 : decode cL_law 777 = .ok (.iload 5, 2) := by decide +kernel
theorem dL_law_779 : decode cL_law 779 = .ok (.if_icmp .eq 5, 3) := by decide +kernel
theorem dL_law_782 : decode cL_law 782 = .ok (.iconst 0, 1) := by decide +kernel
theorem dL_law_783 : decode cL_law 783 = .ok (.ireturn, 1) := by decide +kernel
theorem dL_law_784 : decode cL_law 784 = .ok (.iload 5, 2) := by decide +kernel
theorem dL_law_786 : decode cL_law 786 = .ok (.ifCond .ne 15, 3) := by decide +kernel
theorem dL_law_789 : decode cL_law 789 = .ok (.aload_n 3, 1) := by decide +kernel
theorem dL_law_790 : decode cL_law 790 = .ok (.iconst 0, 1) := by decide +kernel
theorem dL_law_791 : decode cL_law 791 = .ok (.laload, 1) := by decide +kernel
theorem dL_law_792 : decode cL_law 792 = .ok (.iload 6, 2) := by decide +kernel
theorem dL_law_794 : decode cL_law 794 = .ok (.i2l, 1) := by decide +kernel
theorem dL_law_795 : decode cL_law 795 = .ok (.lcmp, 1) := by decide +kernel
theorem dL_law_796 : decode cL_law 796 = .ok (.ifCond .eq 5, 3) := by decide +kernel
theorem dL_law_799 : decode cL_law 799 = .ok (.iconst 0, 1) := by decide +kernel
theorem dL_law_800 : decode cL_law 800 = .ok (.ireturn, 1) := by decide +kernel
theorem dL_law_801 : decode cL_law 801 = .ok (.goto 127, 3) := by decide +kernel
theorem dL_law_804 : decode cL_law 804 = .ok (.aload_n 1, 1) := by decide +kernel
theorem dL_law_805 : decode cL_law 805 = .ok (.aload_n 0, 1) := by decide +kernel
theorem dL_law_806 : decode cL_law 806 = .ok (.iload 4, 2) := by decide +kernel
theorem dL_law_808 : decode cL_law 808 = .ok (.iconst 1, 1) := by decide +kernel
theorem dL_law_809 : decode cL_law 809 = .ok (.iadd, 1) := by decide +kernel
theorem dL_law_810 : decode cL_law 810 = .ok (.iaload, 1) := by decide +kernel
theorem dL_law_811 : decode cL_law 811 = .ok (.aload_n 3, 1) := by decide +kernel
theorem dL_law_812 : decode cL_law 812 = .ok (.invokestatic 107, 3) := by decide +kernel
theorem dL_law_815 : decode cL_law 815 = .ok (.istore 5, 2) := by decide +kernel
theorem dL_law_817 : decode cL_law 817 = .ok (.aload_n 2, 1) := by decide +kernel
theorem dL_law_818 : decode cL_law 818 = .ok (.aload_n 0, 1) := by decide +kernel
theorem dL_law_819 : decode cL_law 819 = .ok (.iload 4, 2) := by decide +kernel
theorem dL_law_821 : decode cL_law 821 = .ok (.iconst 1, 1) := by decide +kernel
theorem dL_law_822 : decode cL_law 822 = .ok (.iadd, 1) := by decide +kernel
theorem dL_law_823 : decode cL_law 823 = .ok (.iaload, 1) := by decide +kernel
theorem dL_law_824 : decode cL_law 824 = .ok (.invokevirtual 109, 3) := by decide +kernel
theorem dL_law_827 : decode cL_law 827 = .ok (.istore 6, 2) := by decide +kernel
theorem dL_law_829 : decode cL_law 829 = .ok (.aload_n 2, 1) := by decide +kernel
theorem dL_law_830 : decode cL_law 830 = .ok (.invokevirtual 69, 3) := by decide +kernel
theorem dL_law_833 : decode cL_law 833 = .ok (.iload 5, 2) := by decide +kernel
theorem dL_law_835 : decode cL_law 835 = .ok (.if_icmp .eq 5, 3) := by decide +kernel
theorem dL_law_838 : decode cL_law 838 = .ok (.iconst 0, 1) := by decide +kernel
theorem dL_law_839 : decode cL_law 839 = .ok (.ireturn, 1) := by decide +kernel
theorem dL_law_840 : decode cL_law 840 = .ok (.iload 5, 2) := by decide +kernel
theorem dL_law_842 : decode cL_law 842 = .ok (.ifCond .ne 15, 3) := by decide +kernel
theorem dL_law_845 : decode cL_law 845 = .ok (.aload_n 3, 1) := by decide +kernel
theorem dL_law_846 : decode cL_law 846 = .ok (.iconst 0, 1) := by decide +kernel
theorem dL_law_847 : decode cL_law 847 = .ok (.laload, 1) := by decide +kernel
theorem dL_law_848 : decode cL_law 848 = .ok (.iload 6, 2) := by decide +kernel
theorem dL_law_850 : decode cL_law 850 = .ok (.i2l, 1) := by decide +kernel
theorem dL_law_851 : decode cL_law 851 = .ok (.lcmp, 1) := by decide +kernel
theorem dL_law_852 : decode cL_law 852 = .ok (.ifCond .eq 5, 3) := by decide +kernel
theorem dL_law_855 : decode cL_law 855 = .ok (.iconst 0, 1) := by decide +kernel
theorem dL_law_856 : decode cL_law 856 = .ok (.ireturn, 1) := by decide +kernel
theorem dL_law_857 : decode cL_law 857 = .ok (.goto 71, 3) := by decide +kernel
theorem dL_law_860 : decode cL_law 860 = .ok (.aload_n 1, 1) := by decide +kernel
theorem dL_law_861 : decode cL_law 861 = .ok (.aload_n 0, 1) := by decide +kernel
theorem dL_law_862 : decode cL_law 862 = .ok (.iload 4, 2) := by decide +kernel
theorem dL_law_864 : decode cL_law 864 = .ok (.iconst 1, 1) := by decide +kernel
theorem dL_law_865 : decode cL_law 865 = .ok (.iadd, 1) := by decide +kernel
theorem dL_law_866 : decode cL_law 866 = .ok (.iaload, 1) := by decide +kernel
theorem dL_law_867 : decode cL_law 867 = .ok (.aload_n 0, 1) := by decide +kernel
theorem dL_law_868 : decode cL_law 868 = .ok (.iload 4, 2) := by decide +kernel
theorem dL_law_870 : decode cL_law 870 = .ok (.iconst 2, 1) := by decide +kernel
theorem dL_law_871 : decode cL_law 871 = .ok (.iadd, 1) := by decide +kernel
theorem dL_law_872 : decode cL_law 872 = .ok (.iaload, 1) := by decide +kernel
theorem dL_law_873 : decode cL_law 873 = .ok (.aload_n 3, 1) := by decide +kernel
theorem dL_law_874 : decode cL_law 874 = .ok (.invokestatic 110, 3) := by decide +kernel
theorem dL_law_877 : decode cL_law 877 = .ok (.istore 5, 2) := by decide +kernel
theorem dL_law_879 : decode cL_law 879 = .ok (.aload_n 2, 1) := by decide +kernel
theorem dL_law_880 : decode cL_law 880 = .ok (.aload_n 0, 1) := by decide +kernel
theorem dL_law_881 : decode cL_law 881 = .ok (.iload 4, 2) := by decide +kernel
theorem dL_law_883 : decode cL_law 883 = .ok (.iconst 1, 1) := by decide +kernel
theorem dL_law_884 : decode cL_law 884 = .ok (.iadd, 1) := by decide +kernel
theorem dL_law_885 : decode cL_law 885 = .ok (.iaload, 1) := by decide +kernel
theorem dL_law_886 : decode cL_law 886 = .ok (.aload_n 0, 1) := by decide +kernel
theorem dL_law_887 : decode cL_law 887 = .ok (.iload 4, 2) := by decide +kernel
theorem dL_law_889 : decode cL_law 889 = .ok (.iconst 2, 1) := by decide +kernel
theorem dL_law_890 : decode cL_law 890 = .ok (.iadd, 1) := by decide +kernel
theorem dL_law_891 : decode cL_law 891 = .ok (.iaload, 1) := by decide +kernel
theorem dL_law_892 : decode cL_law 892 = .ok (.invokevirtual 112, 3) := by decide +kernel
theorem dL_law_895 : decode cL_law 895 = .ok (.istore 6, 2) := by decide +kernel
theorem dL_law_897 : decode cL_law 897 = .ok (.aload_n 2, 1) := by decide +kernel
theorem dL_law_898 : decode cL_law 898 = .ok (.invokevirtual 69, 3) := by decide +kernel
theorem dL_law_901 : decode cL_law 901 = .ok (.iload 5, 2) := by decide +kernel
theorem dL_law_903 : decode cL_law 903 = .ok (.if_icmp .eq 5, 3) := by decide +kernel
theorem dL_law_906 : decode cL_law 906 = .ok (.iconst 0, 1) := by decide +kernel
theorem dL_law_907 : decode cL_law 907 = .ok (.ireturn, 1) := by decide +kernel
theorem dL_law_908 : decode cL_law 908 = .ok (.iload 5, 2) := by decide +kernel
theorem dL_law_910 : decode cL_law 910 = .ok (.ifCond .ne 15, 3) := by decide +kernel
theorem dL_law_913 : decode cL_law 913 = .ok (.aload_n 3, 1) := by decide +kernel
theorem dL_law_914 : decode cL_law 914 = .ok (.iconst 0, 1) := by decide +kernel
theorem dL_law_915 : decode cL_law 915 = .ok (.laload, 1) := by decide +kernel
theorem dL_law_916 : decode cL_law 916 = .ok (.iload 6, 2) := by decide +kernel
theorem dL_law_918 : decode cL_law 918 = .ok (.i2l, 1) := by decide +kernel
theorem dL_law_919 : decode cL_law 919 = .ok (.lcmp, 1) := by decide +kernel
theorem dL_law_920 : decode cL_law 920 = .ok (.ifCond .eq 5, 3) := by decide +kernel
theorem dL_law_923 : decode cL_law 923 = .ok (.iconst 0, 1) := by decide +kernel
theorem dL_law_924 : decode cL_law 924 = .ok (.ireturn, 1) := by decide +kernel
theorem dL_law_925 : decode cL_law 925 = .ok (.goto 3, 3) := by decide +kernel
theorem dL_law_928 : decode cL_law 928 = .ok (.iinc 4 4, 3) := by decide +kernel
theorem dL_law_931 : decode cL_law 931 = .ok (.goto (-908), 3) := by decide +kernel
theorem dL_law_934 : decode cL_law 934 = .ok (.iconst 1, 1) := by decide +kernel
theorem dL_law_935 : decode cL_law 935 = .ok (.ireturn, 1) := by decide +kernel
abbrev vwCl : List vw_C := [(RX0, TX0, 2), (RX1, TX1, 4), (RX2, TX2, 11), (RX3, TX3, 1), (RX4, TX4, 7), (RX5, TX5, 25)]

