theorem dX5_finish_48 : decode cX5_finish 48 = .ok (.iadd, 1) := by decide +kernel
theorem dX5_finish_49 : decode cX5_finish 49 = .ok (.aload_n 0, 1) := by decide +kernel
theorem dX5_finish_50 : decode cX5_finish 50 = .ok (.getfield 41, 3) := by decide +kernel
theorem dX5_finish_53 : decode cX5_finish 53 = .ok (.iload_n 1, 1) := by decide +kernel
theorem dX5_finish_54 : decode cX5_finish 54 = .ok (.baload, 1) := by decide +kernel
theorem dX5_finish_55 : decode cX5_finish 55 = .ok (.ifCond .eq 7, 3) := by decide +kernel
theorem dX5_finish_58 : decode cX5_finish 58 = .ok (.iload_n 2, 1) := by decide +kernel
theorem dX5_finish_59 : decode cX5_finish 59 = .ok (.goto 4, 3) := by decide +kernel
theorem dX5_finish_62 : decode cX5_finish 62 = .ok (.iload_n 1, 1) := by decide +kernel
theorem dX5_finish_63 : decode cX5_finish 63 = .ok (.iastore, 1) := by decide +kernel
theorem dX5_finish_64 : decode cX5_finish 64 = .ok (.aload_n 0, 1) := by decide +kernel
theorem dX5_finish_65 : decode cX5_finish 65 = .ok (.getfield 68, 3) := by decide +kernel
theorem dX5_finish_68 : decode cX5_finish 68 = .ok (.iload 4, 2) := by decide +kernel
theorem dX5_finish_70 : decode cX5_finish 70 = .ok (.iconst 2, 1) := by decide +kernel
theorem dX5_finish_71 : decode cX5_finish 71 = .ok (.iadd, 1) := by decide +kernel
theorem dX5_finish_72 : decode cX5_finish 72 = .ok (.aload_n 0, 1) := by decide +kernel
theorem dX5_finish_73 : decode cX5_finish 73 = .ok (.getfield 44, 3) := by decide +kernel
theorem dX5_finish_76 : decode cX5_finish 76 = .ok (.iload_n 3, 1) := by decide +kernel
theorem dX5_finish_77 : decode cX5_finish 77 = .ok (.iaload, 1) := by decide +kernel
theorem dX5_finish_78 : decode cX5_finish 78 = .ok (.iastore, 1) := by decide +kernel
theorem dX5_finish_79 : decode cX5_finish 79 = .ok (.aload_n 0, 1) := by decide +kernel
theorem dX5_finish_80 : decode cX5_finish 80 = .ok (.getfield 68, 3) := by decide +kernel
theorem dX5_finish_83 : decode cX5_finish 83 = .ok (.iload 4, 2) := by decide +kernel
theorem dX5_finish_85 : decode cX5_finish 85 = .ok (.iconst 3, 1) := by decide +kernel
theorem dX5_finish_86 : decode cX5_finish 86 = .ok (.iadd, 1) := by decide +kernel
theorem dX5_finish_87 : decode cX5_finish 87 = .ok (.aload_n 0, 1) := by decide +kernel
theorem dX5_finish_88 : decode cX5_finish 88 = .ok (.iload_n 3, 1) := by decide +kernel
theorem dX5_finish_89 : decode cX5_finish 89 = .ok (.invokevirtual 100, 3) := by decide +kernel
theorem dX5_finish_92 : decode cX5_finish 92 = .ok (.iastore, 1) := by decide +kernel
theorem dX5_finish_93 : decode cX5_finish 93 = .ok (.aload_n 0, 1) := by decide +kernel
theorem dX5_finish_94 : decode cX5_finish 94 = .ok (.dup, 1) := by decide +kernel
theorem dX5_finish_95 : decode cX5_finish 95 = .ok (.getfield 97, 3) := by decide +kernel
theorem dX5_finish_98 : decode cX5_finish 98 = .ok (.iconst 1, 1) := by decide +kernel
theorem dX5_finish_99 : decode cX5_finish 99 = .ok (.iadd, 1) := by decide +kernel
theorem dX5_finish_100 : decode cX5_finish 100 = .ok (.putfield 97, 3) := by decide +kernel
theorem dX5_finish_103 : decode cX5_finish 103 = .ok (.aload_n 0, 1) := by decide +kernel
theorem dX5_finish_104 : decode cX5_finish 104 = .ok (.getfield 38, 3) := by decide +kernel
theorem dX5_finish_107 : decode cX5_finish 107 = .ok (.iload_n 3, 1) := by decide +kernel
theorem dX5_finish_108 : decode cX5_finish 108 = .ok (.dup2, 1) := by decide +kernel
theorem dX5_finish_109 : decode cX5_finish 109 = .ok (.iaload, 1) := by decide +kernel
theorem dX5_finish_110 : decode cX5_finish 110 = .ok (.aload_n 0, 1) := by decide +kernel
theorem dX5_finish_111 : decode cX5_finish 111 = .ok (.iload_n 3, 1) := by decide +kernel
theorem dX5_finish_112 : decode cX5_finish 112 = .ok (.invokevirtual 100, 3) := by decide +kernel
theorem dX5_finish_115 : decode cX5_finish 115 = .ok (.iadd, 1) := by decide +kernel
theorem dX5_finish_116 : decode cX5_finish 116 = .ok (.iastore, 1) := by decide +kernel
theorem dX5_finish_117 : decode cX5_finish 117 = .ok (.aload_n 0, 1) := by decide +kernel
theorem dX5_finish_118 : decode cX5_finish 118 = .ok (.iload_n 1, 1) := by decide +kernel
theorem dX5_finish_119 : decode cX5_finish 119 = .ok (.iload_n 2, 1) := by decide +kernel
theorem dX5_finish_120 : decode cX5_finish 120 = .ok (.aload_n 0, 1) := by decide +kernel
theorem dX5_finish_121 : decode cX5_finish 121 = .ok (.getfield 25, 3) := by decide +kernel
theorem dX5_finish_124 : decode cX5_finish 124 = .ok (.iload_n 1, 1) := by decide +kernel
theorem dX5_finish_125 : decode cX5_finish 125 = .ok (.iaload, 1) := by decide +kernel
theorem dX5_finish_126 : decode cX5_finish 126 = .ok (.iconst (-1), 1) := by decide +kernel
theorem dX5_finish_127 : decode cX5_finish 127 = .ok (.invokevirtual 83, 3) := by decide +kernel
theorem dX5_finish_130 : decode cX5_finish 130 = .ok (.aload_n 0, 1) := by decide +kernel
theorem dX5_finish_131 : decode cX5_finish 131 = .ok (.getfield 41, 3) := by decide +kernel
theorem dX5_finish_134 : decode cX5_finish 134 = .ok (.iload_n 1, 1) := by decide +kernel
theorem dX5_finish_135 : decode cX5_finish 135 = .ok (.iconst 0, 1) := by decide +kernel
theorem dX5_finish_136 : decode cX5_finish 136 = .ok (.bastore, 1) := by decide +kernel
theorem dX5_finish_137 : decode cX5_finish 137 = .ok (.aload_n 0, 1) := by decide +kernel
theorem dX5_finish_138 : decode cX5_finish 138 = .ok (.getfield 41, 3) := by decide +kernel
theorem dX5_finish_141 : decode cX5_finish 141 = .ok (.iload_n 2, 1) := by decide +kernel
theorem dX5_finish_142 : decode cX5_finish 142 = .ok (.iconst 0, 1) := by decide +kernel
theorem dX5_finish_143 : decode cX5_finish 143 = .ok (.bastore, 1) := by decide +kernel
theorem dX5_finish_144 : decode cX5_finish 144 = .ok (.aload_n 0, 1) := by decide +kernel
theorem dX5_finish_145 : decode cX5_finish 145 = .ok (.getfield 22, 3) := by decide +kernel
theorem dX5_finish_148 : decode cX5_finish 148 = .ok (.iload_n 1, 1) := by decide +kernel
theorem dX5_finish_149 : decode cX5_finish 149 = .ok (.iconst (-1), 1) := by decide +kernel
theorem dX5_finish_150 : decode cX5_finish 150 = .ok (.iastore, 1) := by decide +kernel
theorem dX5_finish_151 : decode cX5_finish 151 = .ok (.aload_n 0, 1) := by decide +kernel
theorem dX5_finish_152 : decode cX5_finish 152 = .ok (.getfield 25, 3) := by decide +kernel
theorem dX5_finish_155 : decode cX5_finish 155 = .ok (.iload_n 1, 1) := by decide +kernel
theorem dX5_finish_156 : decode cX5_finish 156 = .ok (.iconst (-1), 1) := by decide +kernel
theorem dX5_finish_157 : decode cX5_finish 157 = .ok (.iastore, 1) := by decide +kernel
theorem dX5_finish_158 : decode cX5_finish 158 = .ok (.aload_n 0, 1) := by decide +kernel
theorem dX5_finish_159 : decode cX5_finish 159 = .ok (.getfield 22, 3) := by decide +kernel
theorem dX5_finish_162 : decode cX5_finish 162 = .ok (.iload_n 2, 1) := by decide +kernel
theorem dX5_finish_163 : decode cX5_finish 163 = .ok (.iconst (-1), 1) := by decide +kernel
theorem dX5_finish_164 : decode cX5_finish 164 = .ok (.iastore, 1) := by decide +kernel
theorem dX5_finish_165 : decode cX5_finish 165 = .ok (.aload_n 0, 1) := by decide +kernel
theorem dX5_finish_166 : decode cX5_finish 166 = .ok (.getfield 25, 3) := by decide +kernel
theorem dX5_finish_169 : decode cX5_finish 169 = .ok (.iload_n 2, 1) := by decide +kernel
theorem dX5_finish_170 : decode cX5_finish 170 = .ok (.iconst (-1), 1) := by decide +kernel
theorem dX5_finish_171 : decode cX5_finish 171 = .ok (.iastore, 1) := by decide +kernel
theorem dX5_finish_172 : decode cX5_finish 172 = .ok (.return_, 1) := by decide +kernel
set_option maxRecDepth 20000 in
theorem ggX5_call_X5_in : GoodIn wsX5_call wsX5_in := goodIn_r _ [5] (by decide +kernel) (by decide +kernel)
set_option maxRecDepth 20000 in
theorem gX5_call_X5_in : GoodIn wsX5_call (va_wsS RX5 75 yX5_in wsX5_in) := goodIn_app (goodIn_of _ (by decide +kernel)) ggX5_call_X5_in
set_option maxRecDepth 20000 in
theorem ggX5_call_X5_callLine : GoodIn wsX5_call wsX5_callLine := goodIn_r _ [9, 1, 10, 11, 12, 13, 14, 15, 4, 16, 17, 18, 19, 20, 21, 22, 23, 24, 25, 26, 27, 28, 29, 30, 31, 32, 33, 34, 35, 36, 37, 38, 39, 40, 41, 42, 43, 44, 76, 77, 78, 79, 80, 81, 82, 83, 84, 85, 86, 87, 88, 89, 90, 91, 92, 93, 94, 95, 96, 97, 98, 99, 100] (by decide +kernel) (by decide +kernel)
set_option maxRecDepth 20000 in
theorem gX5_call_X5_callLine : GoodIn wsX5_call (wsV RX5 104 RX5 yX5_callLine wsX5_callLine) := goodIn_app (goodIn_of _ (by decide +kernel)) ggX5_call_X5_callLine
set_option maxRecDepth 20000 in
theorem ggX5_call_X5_callGroup : GoodIn wsX5_call wsX5_callGroup := goodIn_r _ [48, 49, 50, 51, 52, 25, 12, 53, 54, 55, 4, 56, 10, 1, 30, 31, 32, 33, 34, 26, 27, 28, 29, 35, 36, 37, 38, 39, 40, 41, 42, 17, 18, 43, 44, 19, 20, 21, 22, 23, 24, 11, 13, 14, 15, 16, 76, 77, 78, 79, 80, 81, 82, 83, 84, 85, 86, 87, 88, 89, 90, 91, 92, 93, 94, 95, 96, 97, 98, 99, 100] (by decide +kernel) (by decide +kernel)
set_option maxRecDepth 20000 in
theorem gX5_call_X5_callGroup : GoodIn wsX5_call (wsV RX5 107 RX5 yX5_callGroup wsX5_callGroup) := goodIn_app (goodIn_of _ (by decide +kernel)) ggX5_call_X5_callGroup
set_option maxRecDepth 20000 in
theorem ggX5_call_X5_pick : GoodIn wsX5_call wsX5_pick := goodIn_r _ [60, 10, 23, 17, 12, 13, 14, 15, 4, 16, 18, 19, 20, 21, 22, 24, 11, 25, 61, 62, 63, 64, 35, 36, 37, 38, 34, 26, 27, 28, 29, 30, 31, 32, 33, 65, 66, 67, 68, 69, 70, 76, 77, 78, 79, 80, 81, 82, 83, 84, 85, 86, 87, 88, 89, 90, 91, 92, 93, 94, 95, 96, 97, 98, 99, 100] (by decide +kernel) (by decide +kernel)
set_option maxRecDepth 20000 in
theorem gX5_call_X5_pick : GoodIn wsX5_call (wsV RX5 110 RX5 yX5_pick wsX5_pick) := goodIn_app (goodIn_of _ (by decide +kernel)) ggX5_call_X5_pick
set_option maxRecDepth 20000 in
theorem ggX5_call_X5_unpark : GoodIn wsX5_call wsX5_unpark := goodIn_r _ [74, 75, 12, 26, 27, 28, 4, 29, 30, 31, 32, 33, 34, 35, 36, 37, 38, 13, 14, 15, 16, 17, 18, 19, 20, 21, 22, 10, 23, 24, 11, 25, 65, 66, 67, 68, 69, 70, 76, 77, 78, 79, 80, 81, 82, 83, 84, 85, 86, 87, 88, 89, 90, 91, 92, 93, 94, 95, 96, 97, 98, 99, 100] (by decide +kernel) (by decide +kernel)
set_option maxRecDepth 20000 in
theorem gX5_call_X5_unpark : GoodIn wsX5_call (wsV RX5 114 RX5 yX5_unpark wsX5_unpark) := goodIn_app (goodIn_of _ (by decide +kernel)) ggX5_call_X5_unpark
set_option maxRecDepth 20000 in
theorem ggX5_call_X5_busy : GoodIn wsX5_call wsX5_busy := goodIn_r _ [16, 17, 18, 19, 20, 21, 4, 22, 10, 23, 24, 11, 25, 76, 77, 78, 79, 80, 81, 82, 83, 84, 85, 86, 87, 88, 89, 90, 91, 92, 93, 94, 95, 96, 97, 98, 99, 100] (by decide +kernel) (by decide +kernel)
set_option maxRecDepth 20000 in
theorem gX5_call_X5_busy : GoodIn wsX5_call (wsV RX5 117 RX5 yX5_busy wsX5_busy) := goodIn_app (goodIn_of _ (by decide +kernel)) ggX5_call_X5_busy
theorem dX5_call_0 : decode cX5_call 0 = .ok (.iload_n 2, 1) := by decide +kernel
theorem dX5_call_1 : decode cX5_call 1 = .ok (.bipush 10, 2) := by decide +kernel
theorem dX5_call_3 : decode cX5_call 3 = .ok (.bipush 33, 2) := by decide +kernel
theorem dX5_call_5 : decode cX5_call 5 = .ok (.invokestatic 75, 3) := by decide +kernel
theorem dX5_call_8 : decode cX5_call 8 = .ok (.ifCond .eq 15, 3) := by decide +kernel
theorem dX5_call_11 : decode cX5_call 11 = .ok (.aload_n 0, 1) := by decide +kernel
theorem dX5_call_12 : decode cX5_call 12 = .ok (.iload_n 1, 1) := by decide +kernel
theorem dX5_call_13 : decode cX5_call 13 = .ok (.iload_n 2, 1) := by decide +kernel
theorem dX5_call_14 : decode cX5_call 14 = .ok (.bipush 10, 2) := by decide +kernel
theorem dX5_call_16 : decode cX5_call 16 = .ok (.isub, 1) := by decide +kernel
theorem dX5_call_17 : decode cX5_call 17 = .ok (.invokevirtual 104, 3) := by decide +kernel
theorem dX5_call_20 : decode cX5_call 20 = .ok (.goto 94, 3) := by decide +kernel
theorem dX5_call_23 : decode cX5_call 23 = .ok (.iload_n 2, 1) := by decide +kernel
theorem dX5_call_24 : decode cX5_call 24 = .ok (.bipush 40, 2) := by decide +kernel
theorem dX5_call_26 : decode cX5_call 26 = .ok (.bipush 43, 2) := by decide +kernel
theorem dX5_call_28 : decode cX5_call 28 = .ok (.invokestatic 75, 3) := by decide +kernel
theorem dX5_call_31 : decode cX5_call 31 = .ok (.ifCond .eq 15, 3) := by decide +kernel
theorem dX5_call_34 : decode cX5_call 34 = .ok (.aload_n 0, 1) := by decide +kernel
theorem dX5_call_35 : decode cX5_call 35 = .ok (.iload_n 1, 1) := by decide +kernel
theorem dX5_call_36 : decode cX5_call 36 = .ok (.iload_n 2, 1) := by decide +kernel
theorem dX5_call_37 : decode cX5_call 37 = .ok (.bipush 40, 2) := by decide +kernel
theorem dX5_call_39 : decode cX5_call 39 = .ok (.isub, 1) := by decide +kernel
theorem dX5_call_40 : decode cX5_call 40 = .ok (.invokevirtual 107, 3) := by decide +kernel
theorem dX5_call_43 : decode cX5_call 43 = .ok (.goto 71, 3) := by decide +kernel
theorem dX5_call_46 : decode cX5_call 46 = .ok (.iload_n 2, 1) := by decide +kernel
theorem dX5_call_47 : decode cX5_call 47 = .ok (.bipush 50, 2) := by decide +kernel
theorem dX5_call_49 : decode cX5_call 49 = .ok (.if_icmp .ne 11, 3) := by decide +kernel
theorem dX5_call_52 : decode cX5_call 52 = .ok (.aload_n 0, 1) := by decide +kernel
theorem dX5_call_53 : decode cX5_call 53 = .ok (.iload_n 1, 1) := by decide +kernel
theorem dX5_call_54 : decode cX5_call 54 = .ok (.invokevirtual 110, 3) := by decide +kernel
theorem dX5_call_57 : decode cX5_call 57 = .ok (.goto 57, 3) := by decide +kernel
theorem dX5_call_60 : decode cX5_call 60 = .ok (.iload_n 2, 1) := by decide +kernel
theorem dX5_call_61 : decode cX5_call 61 = .ok (.bipush 60, 2) := by decide +kernel
theorem dX5_call_63 : decode cX5_call 63 = .ok (.bipush 63, 2) := by decide +kernel
theorem dX5_call_65 : decode cX5_call 65 = .ok (.invokestatic 75, 3) := by decide +kernel
theorem dX5_call_68 : decode cX5_call 68 = .ok (.ifCond .eq 15, 3) := by decide +kernel
theorem dX5_call_71 : decode cX5_call 71 = .ok (.aload_n 0, 1) := by decide +kernel
theorem dX5_call_72 : decode cX5_call 72 = .ok (.iload_n 1, 1) := by decide +kernel
theorem dX5_call_73 : decode cX5_call 73 = .ok (.iload_n 2, 1) := by decide +kernel
theorem dX5_call_74 : decode cX5_call 74 = .ok (.bipush 60, 2) := by decide +kernel
theorem dX5_call_76 : decode cX5_call 76 = .ok (.isub, 1) := by decide +kernel
theorem dX5_call_77 : decode cX5_call 77 = .ok (.invokevirtual 114, 3) := by decide +kernel
theorem dX5_call_80 : decode cX5_call 80 = .ok (.goto 34, 3) := by decide +kernel
theorem dX5_call_83 : decode cX5_call 83 = .ok (.iload_n 2, 1) := by decide +kernel
theorem dX5_call_84 : decode cX5_call 84 = .ok (.bipush 51, 2) := by decide +kernel
theorem dX5_call_86 : decode cX5_call 86 = .ok (.if_icmp .ne 10, 3) := by decide +kernel
theorem dX5_call_89 : decode cX5_call 89 = .ok (.aload_n 0, 1) := by decide +kernel
theorem dX5_call_90 : decode cX5_call 90 = .ok (.getfield 34, 3) := by decide +kernel
theorem dX5_call_93 : decode cX5_call 93 = .ok (.iload_n 1, 1) := by decide +kernel
theorem dX5_call_94 : decode cX5_call 94 = .ok (.iconst 1, 1) := by decide +kernel
theorem dX5_call_95 : decode cX5_call 95 = .ok (.bastore, 1) := by decide +kernel
theorem dX5_call_96 : decode cX5_call 96 = .ok (.iload_n 2, 1) := by decide +kernel
theorem dX5_call_97 : decode cX5_call 97 = .ok (.bipush 52, 2) := by decide +kernel
theorem dX5_call_99 : decode cX5_call 99 = .ok (.if_icmp .ne 10, 3) := by decide +kernel
theorem dX5_call_102 : decode cX5_call 102 = .ok (.aload_n 0, 1) := by decide +kernel
theorem dX5_call_103 : decode cX5_call 103 = .ok (.getfield 34, 3) := by decide +kernel
theorem dX5_call_106 : decode cX5_call 106 = .ok (.iload_n 1, 1) := by decide +kernel
theorem dX5_call_107 : decode cX5_call 107 = .ok (.iconst 0, 1) := by decide +kernel
theorem dX5_call_108 : decode cX5_call 108 = .ok (.bastore, 1) := by decide +kernel
theorem dX5_call_109 : decode cX5_call 109 = .ok (.aload_n 0, 1) := by decide +kernel
theorem dX5_call_110 : decode cX5_call 110 = .ok (.iload_n 1, 1) := by decide +kernel
theorem dX5_call_111 : decode cX5_call 111 = .ok (.invokevirtual 117, 3) := by decide +kernel
theorem dX5_call_114 : decode cX5_call 114 = .ok (.return_, 1) := by decide +kernel
set_option maxRecDepth 20000 in
theorem ggX5_callLine_X5_busy : GoodIn wsX5_callLine wsX5_busy := goodIn_r _ [9, 10, 11, 12, 13, 14, 8, 15, 2, 16, 17, 3, 18, 38, 39, 40, 41, 42, 43, 44, 45, 46, 47, 48, 49, 50, 51, 52, 53, 54, 55, 56, 57, 58, 59, 60, 61, 62] (by decide +kernel) (by decide +kernel)
set_option maxRecDepth 20000 in
theorem gX5_callLine_X5_busy : GoodIn wsX5_callLine (wsV RX5 117 RX5 yX5_busy wsX5_busy) := goodIn_app (goodIn_of _ (by decide +kernel)) ggX5_callLine_X5_busy
set_option maxRecDepth 20000 in
theorem ggX5_callLine_X5_take : GoodIn wsX5_callLine wsX5_take := goodIn_r _ [22, 23, 24, 25, 8, 26, 27, 28, 29, 30, 31, 38, 39, 40, 41, 42, 43, 44, 45, 46, 47, 48, 49, 50, 51, 52, 53, 54, 55, 56, 57, 58, 59, 60, 61, 62] (by decide +kernel) (by decide +kernel)
set_option maxRecDepth 20000 in
theorem gX5_callLine_X5_take : GoodIn wsX5_callLine (wsV RX5 120 RX5 yX5_take wsX5_take) := goodIn_app (goodIn_of _ (by decide +kernel)) ggX5_callLine_X5_take
set_option maxRecDepth 20000 in
theorem ggX5_callLine_X5_ring : GoodIn wsX5_callLine wsX5_ring := goodIn_r _ [35, 10, 11, 36, 37, 2, 12, 13, 14, 8, 15, 16, 17, 3, 18, 38, 39, 40, 41, 42, 43, 44, 45, 46, 47, 48, 49, 50, 51, 52, 53, 54, 55, 56, 57, 58, 59, 60, 61, 62] (by decide +kernel) (by decide +kernel)
set_option maxRecDepth 20000 in
theorem gX5_callLine_X5_ring : GoodIn wsX5_callLine (wsV RX5 126 RX5 yX5_ring wsX5_ring) := goodIn_app (goodIn_of _ (by decide +kernel)) ggX5_callLine_X5_ring
theorem dX5_callLine_0 : decode cX5_callLine 0 = .ok (.iload_n 2, 1) := by decide +kernel
theorem dX5_callLine_1 : decode cX5_callLine 1 = .ok (.iload_n 1, 1) := by decide +kernel
theorem dX5_callLine_2 : decode cX5_callLine 2 = .ok (.if_icmp .eq 12, 3) := by decide +kernel
theorem dX5_callLine_5 : decode cX5_callLine 5 = .ok (.aload_n 0, 1) := by decide +kernel
theorem dX5_callLine_6 : decode cX5_callLine 6 = .ok (.getfield 34, 3) := by decide +kernel
theorem dX5_callLine_9 : decode cX5_callLine 9 = .ok (.iload_n 2, 1) := by decide +kernel
theorem dX5_callLine_10 : decode cX5_callLine 10 = .ok (.baload, 1) := by decide +kernel
theorem dX5_callLine_11 : decode cX5_callLine 11 = .ok (.ifCond .eq 11, 3) := by decide +kernel
theorem dX5_callLine_14 : decode cX5_callLine 14 = .ok (.aload_n 0, 1) := by decide +kernel
theorem dX5_callLine_15 : decode cX5_callLine 15 = .ok (.iload_n 1, 1) := by decide +kernel
theorem dX5_callLine_16 : decode cX5_callLine 16 = .ok (.invokevirtual 117, 3) := by decide +kernel
theorem dX5_callLine_19 : decode cX5_callLine 19 = .ok (.goto 63, 3) := by decide +kernel
theorem dX5_callLine_22 : decode cX5_callLine 22 = .ok (.aload_n 0, 1) := by decide +kernel
theorem dX5_callLine_23 : decode cX5_callLine 23 = .ok (.getfield 7, 3) := by decide +kernel
theorem dX5_callLine_26 : decode cX5_callLine 26 = .ok (.iload_n 2, 1) := by decide +kernel
theorem dX5_callLine_27 : decode cX5_callLine 27 = .ok (.iaload, 1) := by decide +kernel
theorem dX5_callLine_28 : decode cX5_callLine 28 = .ok (.ifCond .eq 18, 3) := by decide +kernel
theorem dX5_callLine_31 : decode cX5_callLine 31 = .ok (.aload_n 0, 1) := by decide +kernel
theorem dX5_callLine_32 : decode cX5_callLine 32 = .ok (.iload_n 1, 1) := by decide +kernel
theorem dX5_callLine_33 : decode cX5_callLine 33 = .ok (.invokevirtual 117, 3) := by decide +kernel
theorem dX5_callLine_36 : decode cX5_callLine 36 = .ok (.aload_n 0, 1) := by decide +kernel
theorem dX5_callLine_37 : decode cX5_callLine 37 = .ok (.getfield 31, 3) := by decide +kernel
theorem dX5_callLine_40 : decode cX5_callLine 40 = .ok (.iload_n 1, 1) := by decide +kernel
theorem dX5_callLine_41 : decode cX5_callLine 41 = .ok (.iload_n 2, 1) := by decide +kernel
theorem dX5_callLine_42 : decode cX5_callLine 42 = .ok (.iastore, 1) := by decide +kernel
theorem dX5_callLine_43 : decode cX5_callLine 43 = .ok (.goto 39, 3) := by decide +kernel
theorem dX5_callLine_46 : decode cX5_callLine 46 = .ok (.aload_n 0, 1) := by decide +kernel
theorem dX5_callLine_47 : decode cX5_callLine 47 = .ok (.iload_n 1, 1) := by decide +kernel
theorem dX5_callLine_48 : decode cX5_callLine 48 = .ok (.iload_n 2, 1) := by decide +kernel
theorem dX5_callLine_49 : decode cX5_callLine 49 = .ok (.invokevirtual 120, 3) := by decide +kernel
theorem dX5_callLine_52 : decode cX5_callLine 52 = .ok (.istore_n 3, 1) := by decide +kernel
theorem dX5_callLine_53 : decode cX5_callLine 53 = .ok (.iload_n 3, 1) := by decide +kernel
theorem dX5_callLine_54 : decode cX5_callLine 54 = .ok (.ifCond .ge 21, 3) := by decide +kernel
theorem dX5_callLine_57 : decode cX5_callLine 57 = .ok (.aload_n 0, 1) := by decide +kernel
theorem dX5_callLine_58 : decode cX5_callLine 58 = .ok (.dup, 1) := by decide +kernel
theorem dX5_callLine_59 : decode cX5_callLine 59 = .ok (.getfield 123, 3) := by decide +kernel
theorem dX5_callLine_62 : decode cX5_callLine 62 = .ok (.iconst 1, 1) := by decide +kernel
theorem dX5_callLine_63 : decode cX5_callLine 63 = .ok (.iadd, 1) := by decide +kernel
theorem dX5_callLine_64 : decode cX5_callLine 64 = .ok (.putfield 123, 3) := by decide +kernel
theorem dX5_callLine_67 : decode cX5_callLine 67 = .ok (.aload_n 0, 1) := by decide +kernel
theorem dX5_callLine_68 : decode cX5_callLine 68 = .ok (.iload_n 1, 1) := by decide +kernel
theorem dX5_callLine_69 : decode cX5_callLine 69 = .ok (.invokevirtual 117, 3) := by decide +kernel
theorem dX5_callLine_72 : decode cX5_callLine 72 = .ok (.goto 10, 3) := by decide +kernel
theorem dX5_callLine_75 : decode cX5_callLine 75 = .ok (.aload_n 0, 1) := by decide +kernel
theorem dX5_callLine_76 : decode cX5_callLine 76 = .ok (.iload_n 1, 1) := by decide +kernel
theorem dX5_callLine_77 : decode cX5_callLine 77 = .ok (.iload_n 2, 1) := by decide +kernel
theorem dX5_callLine_78 : decode cX5_callLine 78 = .ok (.iload_n 3, 1) := by decide +kernel
theorem dX5_callLine_79 : decode cX5_callLine 79 = .ok (.invokevirtual 126, 3) := by decide +kernel
theorem dX5_callLine_82 : decode cX5_callLine 82 = .ok (.return_, 1) := by decide +kernel
theorem dX5_mayRing_0 : decode cX5_mayRing 0 = .ok (.aload_n 0, 1) := by decide +kernel
theorem dX5_mayRing_1 : decode cX5_mayRing 1 = .ok (.getfield 7, 3) := by decide +kernel
theorem dX5_mayRing_4 : decode cX5_mayRing 4 = .ok (.iload_n 2, 1) := by decide +kernel
theorem dX5_mayRing_5 : decode cX5_mayRing 5 = .ok (.iaload, 1) := by decide +kernel
theorem dX5_mayRing_6 : decode cX5_mayRing 6 = .ok (.ifCond .ne 21, 3) := by decide +kernel
theorem dX5_mayRing_9 : decode cX5_mayRing 9 = .ok (.aload_n 0, 1) := by decide +kernel
theorem dX5_mayRing_10 : decode cX5_mayRing 10 = .ok (.getfield 34, 3) := by decide +kernel
theorem dX5_mayRing_13 : decode cX5_mayRing 13 = .ok (.iload_n 2, 1) := by decide +kernel
theorem dX5_mayRing_14 : decode cX5_mayRing 14 = .ok (.baload, 1) := by decide +kernel
theorem dX5_mayRing_15 : decode cX5_mayRing 15 = .ok (.ifCond .ne 12, 3) := by decide +kernel
theorem dX5_mayRing_18 : decode cX5_mayRing 18 = .ok (.iload_n 2, 1) := by decide +kernel
theorem dX5_mayRing_19 : decode cX5_mayRing 19 = .ok (.iload_n 1, 1) := by decide +kernel
theorem dX5_mayRing_20 : decode cX5_mayRing 20 = .ok (.if_icmp .eq 7, 3) := by decide +kernel
theorem dX5_mayRing_23 : decode cX5_mayRing 23 = .ok (.iconst 1, 1) := by decide +kernel
theorem dX5_mayRing_24 : decode cX5_mayRing 24 = .ok (.goto 4, 3) := by decide +kernel
theorem dX5_mayRing_27 : decode cX5_mayRing 27 = .ok (.iconst 0, 1) := by decide +kernel
theorem dX5_mayRing_28 : decode cX5_mayRing 28 = .ok (.ireturn, 1) := by decide +kernel
set_option maxRecDepth 20000 in
theorem ggX5_callGroup_X5_mayRing : GoodIn wsX5_callGroup wsX5_mayRing := goodIn_r _ [11, 12, 13, 46, 47, 48, 49, 50, 51, 52, 53, 54, 55, 56, 57, 58, 59, 60, 61, 62, 63, 64, 65, 66, 67, 68, 69, 70] (by decide +kernel) (by decide +kernel)
set_option maxRecDepth 20000 in
theorem gX5_callGroup_X5_mayRing : GoodIn wsX5_callGroup (wsV RX5 130 RX5 yX5_mayRing wsX5_mayRing) := goodIn_app (goodIn_of _ (by decide +kernel)) ggX5_callGroup_X5_mayRing
set_option maxRecDepth 20000 in
theorem ggX5_callGroup_X5_free : GoodIn wsX5_callGroup wsX5_free := goodIn_r _ [17, 18, 46, 47, 48, 49, 50, 51, 52, 53, 54, 55, 56, 57, 58, 59, 60, 61, 62, 63, 64, 65, 66, 67, 68, 69, 70] (by decide +kernel) (by decide +kernel)
set_option maxRecDepth 20000 in
theorem gX5_callGroup_X5_free : GoodIn wsX5_callGroup (wsV RX5 79 RX5 yX5_free wsX5_free) := goodIn_app (goodIn_of _ (by decide +kernel)) ggX5_callGroup_X5_free
set_option maxRecDepth 20000 in
theorem ggX5_callGroup_X5_take : GoodIn wsX5_callGroup wsX5_take := goodIn_r _ [22, 14, 15, 16, 10, 17, 18, 23, 24, 25, 26, 46, 47, 48, 49, 50, 51, 52, 53, 54, 55, 56, 57, 58, 59, 60, 61, 62, 63, 64, 65, 66, 67, 68, 69, 70] (by decide +kernel) (by decide +kernel)
set_option maxRecDepth 20000 in
theorem gX5_callGroup_X5_take : GoodIn wsX5_callGroup (wsV RX5 120 RX5 yX5_take wsX5_take) := goodIn_app (goodIn_of _ (by decide +kernel)) ggX5_callGroup_X5_take
set_option maxRecDepth 20000 in
theorem ggX5_callGroup_X5_ring : GoodIn wsX5_callGroup wsX5_ring := goodIn_r _ [30, 31, 32, 33, 34, 12, 35, 36, 37, 10, 38, 39, 40, 41, 5, 46, 47, 48, 49, 50, 51, 52, 53, 54, 55, 56, 57, 58, 59, 60, 61, 62, 63, 64, 65, 66, 67, 68, 69, 70] (by decide +kernel) (by decide +kernel)
set_option maxRecDepth 20000 in
theorem gX5_callGroup_X5_ring : GoodIn wsX5_callGroup (wsV RX5 126 RX5 yX5_ring wsX5_ring) := goodIn_app (goodIn_of _ (by decide +kernel)) ggX5_callGroup_X5_ring
set_option maxRecDepth 20000 in
theorem ggX5_callGroup_X5_busy : GoodIn wsX5_callGroup wsX5_busy := goodIn_r _ [45, 31, 32, 35, 36, 37, 10, 38, 12, 39, 40, 41, 5, 46, 47, 48, 49, 50, 51, 52, 53, 54, 55, 56, 57, 58, 59, 60, 61, 62, 63, 64, 65, 66, 67, 68, 69, 70] (by decide +kernel) (by decide +kernel)
set_option maxRecDepth 20000 in
theorem gX5_callGroup_X5_busy : GoodIn wsX5_callGroup (wsV RX5 117 RX5 yX5_busy wsX5_busy) := goodIn_app (goodIn_of _ (by decide +kernel)) ggX5_callGroup_X5_busy
theorem dX5_callGroup_0 : decode cX5_callGroup 0 = .ok (.iconst 0, 1) := by decide +kernel
theorem dX5_callGroup_1 : decode cX5_callGroup 1 = .ok (.istore_n 3, 1) := by decide +kernel
theorem dX5_callGroup_2 : decode cX5_callGroup 2 = .ok (.iconst (-1), 1) := by decide +kernel
theorem dX5_callGroup_3 : decode cX5_callGroup 3 = .ok (.istore 4, 2) := by decide +kernel
theorem dX5_callGroup_5 : decode cX5_callGroup 5 = .ok (.iconst 0, 1) := by decide +kernel
theorem dX5_callGroup_6 : decode cX5_callGroup 6 = .ok (.istore 5, 2) := by decide +kernel
theorem dX5_callGroup_8 : decode cX5_callGroup 8 = .ok (.iload 5, 2) := by decide +kernel
theorem dX5_callGroup_10 : decode cX5_callGroup 10 = .ok (.aload_n 0, 1) := by decide +kernel
theorem dX5_callGroup_11 : decode cX5_callGroup 11 = .ok (.getfield 59, 3) := by decide +kernel
theorem dX5_callGroup_14 : decode cX5_callGroup 14 = .ok (.iload_n 2, 1) := by decide +kernel
theorem dX5_callGroup_15 : decode cX5_callGroup 15 = .ok (.iaload, 1) := by decide +kernel
theorem dX5_callGroup_16 : decode cX5_callGroup 16 = .ok (.if_icmp .ge 196, 3) := by decide +kernel
theorem dX5_callGroup_19 : decode cX5_callGroup 19 = .ok (.aload_n 0, 1) := by decide +kernel
theorem dX5_callGroup_20 : decode cX5_callGroup 20 = .ok (.getfield 62, 3) := by decide +kernel
theorem dX5_callGroup_23 : decode cX5_callGroup 23 = .ok (.iload_n 2, 1) := by decide +kernel
theorem dX5_callGroup_24 : decode cX5_callGroup 24 = .ok (.iaload, 1) := by decide +kernel
theorem dX5_callGroup_25 : decode cX5_callGroup 25 = .ok (.iconst 1, 1) := by decide +kernel
theorem dX5_callGroup_26 : decode cX5_callGroup 26 = .ok (.if_icmp .ne 24, 3) := by decide +kernel
theorem dX5_callGroup_29 : decode cX5_callGroup 29 = .ok (.aload_n 0, 1) := by decide +kernel
theorem dX5_callGroup_30 : decode cX5_callGroup 30 = .ok (.getfield 65, 3) := by decide +kernel
theorem dX5_callGroup_33 : decode cX5_callGroup 33 = .ok (.iload_n 2, 1) := by decide +kernel
theorem dX5_callGroup_34 : decode cX5_callGroup 34 = .ok (.iaload, 1) := by decide +kernel
theorem dX5_callGroup_35 : decode cX5_callGroup 35 = .ok (.iconst 1, 1) := by decide +kernel
theorem dX5_callGroup_36 : decode cX5_callGroup 36 = .ok (.iadd, 1) := by decide +kernel
theorem dX5_callGroup_37 : decode cX5_callGroup 37 = .ok (.iload 5, 2) := by decide +kernel
theorem dX5_callGroup_39 : decode cX5_callGroup 39 = .ok (.iadd, 1) := by decide +kernel
theorem dX5_callGroup_40 : decode cX5_callGroup 40 = .ok (.aload_n 0, 1) := by decide +kernel
theorem dX5_callGroup_41 : decode cX5_callGroup 41 = .ok (.getfield 59, 3) := by decide +kernel
theorem dX5_callGroup_44 : decode cX5_callGroup 44 = .ok (.iload_n 2, 1) := by decide +kernel
theorem dX5_callGroup_45 : decode cX5_callGroup 45 = .ok (.iaload, 1) := by decide +kernel
theorem dX5_callGroup_46 : decode cX5_callGroup 46 = .ok (.irem, 1) := by decide +kernel
theorem dX5_callGroup_47 : decode cX5_callGroup 47 = .ok (.goto 5, 3) := by decide +kernel
theorem dX5_callGroup_50 : decode cX5_callGroup 50 = .ok (.iload 5, 2) := by decide +kernel
theorem dX5_callGroup_52 : decode cX5_callGroup 52 = .ok (.istore 6, 2) := by decide +kernel
theorem dX5_callGroup_54 : decode cX5_callGroup 54 = .ok (.aload_n 0, 1) := by decide +kernel
theorem dX5_callGroup_55 : decode cX5_callGroup 55 = .ok (.getfield 56, 3) := by decide +kernel
theorem dX5_callGroup_58 : decode cX5_callGroup 58 = .ok (.bipush 6, 2) := by decide +kernel
theorem dX5_callGroup_60 : decode cX5_callGroup 60 = .ok (.iload_n 2, 1) := by decide +kernel
theorem dX5_callGroup_61 : decode cX5_callGroup 61 = .ok (.imul, 1) := by decide +kernel
theorem dX5_callGroup_62 : decode cX5_callGroup 62 = .ok (.iload 6, 2) := by decide +kernel
theorem dX5_callGroup_64 : decode cX5_callGroup 64 = .ok (.iadd, 1) := by decide +kernel
theorem dX5_callGroup_65 : decode cX5_callGroup 65 = .ok (.iaload, 1) := by decide +kernel
theorem dX5_callGroup_66 : decode cX5_callGroup 66 = .ok (.istore 7, 2) := by decide +kernel
theorem dX5_callGroup_68 : decode cX5_callGroup 68 = .ok (.aload_n 0, 1) := by decide +kernel
theorem dX5_callGroup_69 : decode cX5_callGroup 69 = .ok (.iload_n 1, 1) := by decide +kernel
theorem dX5_callGroup_70 : decode cX5_callGroup 70 = .ok (.iload 7, 2) := by decide +kernel
theorem dX5_callGroup_72 : decode cX5_callGroup 72 = .ok (.invokevirtual 130, 3) := by decide +kernel
theorem dX5_callGroup_75 : decode cX5_callGroup 75 = .ok (.ifCond .eq 131, 3) := by decide +kernel
theorem dX5_callGroup_78 : decode cX5_callGroup 78 = .ok (.aload_n 0, 1) := by decide +kernel
theorem dX5_callGroup_79 : decode cX5_callGroup 79 = .ok (.iload_n 1, 1) := by decide +kernel
theorem dX5_callGroup_80 : decode cX5_callGroup 80 = .ok (.iload 7, 2) := by decide +kernel
theorem dX5_callGroup_82 : decode cX5_callGroup 82 = .ok (.invokevirtual 79, 3) := by decide +kernel
theorem dX5_callGroup_85 : decode cX5_callGroup 85 = .ok (.istore 8, 2) := by decide +kernel
theorem dX5_callGroup_87 : decode cX5_callGroup 87 = .ok (.iload_n 3, 1) := by decide +kernel
theorem dX5_callGroup_88 : decode cX5_callGroup 88 = .ok (.ifCond .ne 8, 3) := by decide +kernel
theorem dX5_callGroup_91 : decode cX5_callGroup 91 = .ok (.iload 8, 2) := by decide +kernel
theorem dX5_callGroup_93 : decode cX5_callGroup 93 = .ok (.ifCond .ge 7, 3) := by decide +kernel
theorem dX5_callGroup_96 : decode cX5_callGroup 96 = .ok (.iconst 1, 1) := by decide +kernel
theorem dX5_callGroup_97 : decode cX5_callGroup 97 = .ok (.goto 4, 3) := by decide +kernel
theorem dX5_callGroup_100 : decode cX5_callGroup 100 = .ok (.iconst 0, 1) := by decide +kernel
theorem dX5_callGroup_101 : decode cX5_callGroup 101 = .ok (.istore_n 3, 1) := by decide +kernel
theorem dX5_callGroup_102 : decode cX5_callGroup 102 = .ok (.iload 8, 2) := by decide +kernel
theorem dX5_callGroup_104 : decode cX5_callGroup 104 = .ok (.ifCond .lt 34, 3) := by decide +kernel
theorem dX5_callGroup_107 : decode cX5_callGroup 107 = .ok (.aload_n 0, 1) := by decide +kernel
theorem dX5_callGroup_108 : decode cX5_callGroup 108 = .ok (.getfield 62, 3) := by decide +kernel
theorem dX5_callGroup_111 : decode cX5_callGroup 111 = .ok (.iload_n 2, 1) := by decide +kernel
theorem dX5_callGroup_112 : decode cX5_callGroup 112 = .ok (.iaload, 1) := by decide +kernel
theorem dX5_callGroup_113 : decode cX5_callGroup 113 = .ok (.iconst 3, 1) := by decide +kernel
theorem dX5_callGroup_114 : decode cX5_callGroup 114 = .ok (.if_icmp .ne 24, 3) := by decide +kernel
theorem dX5_callGroup_117 : decode cX5_callGroup 117 = .ok (.aload_n 0, 1) := by decide +kernel
theorem dX5_callGroup_118 : decode cX5_callGroup 118 = .ok (.iload_n 1, 1) := by decide +kernel
theorem dX5_callGroup_119 : decode cX5_callGroup 119 = .ok (.iload 7, 2) := by decide +kernel
theorem dX5_callGroup_121 : decode cX5_callGroup 121 = .ok (.aload_n 0, 1) := by decide +kernel
theorem dX5_callGroup_122 : decode cX5_callGroup 122 = .ok (.iload_n 1, 1) := by decide +kernel
theorem dX5_callGroup_123 : decode cX5_callGroup 123 = .ok (.iload 7, 2) := by decide +kernel
theorem dX5_callGroup_125 : decode cX5_callGroup 125 = .ok (.invokevirtual 120, 3) := by decide +kernel
theorem dX5_callGroup_128 : decode cX5_callGroup 128 = .ok (.invokevirtual 126, 3) := by decide +kernel
theorem dX5_callGroup_131 : decode cX5_callGroup 131 = .ok (.iload 6, 2) := by decide +kernel
theorem dX5_callGroup_133 : decode cX5_callGroup 133 = .ok (.istore 4, 2) := by decide +kernel
theorem dX5_callGroup_135 : decode cX5_callGroup 135 = .ok (.goto 71, 3) := by decide +kernel
theorem dX5_callGroup_138 : decode cX5_callGroup 138 = .ok (.iload 8, 2) := by decide +kernel
theorem dX5_callGroup_140 : decode cX5_callGroup 140 = .ok (.ifCond .lt 66, 3) := by decide +kernel
theorem dX5_callGroup_143 : decode cX5_callGroup 143 = .ok (.iload 4, 2) := by decide +kernel
theorem dX5_callGroup_145 : decode cX5_callGroup 145 = .ok (.ifCond .lt 40, 3) := by decide +kernel
theorem dX5_callGroup_148 : decode cX5_callGroup 148 = .ok (.aload_n 0, 1) := by decide +kernel
theorem dX5_callGroup_149 : decode cX5_callGroup 149 = .ok (.getfield 62, 3) := by decide +kernel
theorem dX5_callGroup_152 : decode cX5_callGroup 152 = .ok (.iload_n 2, 1) := by decide +kernel
theorem dX5_callGroup_153 : decode cX5_callGroup 153 = .ok (.iaload, 1) := by decide +kernel
theorem dX5_callGroup_154 : decode cX5_callGroup 154 = .ok (.iconst 2, 1) := by decide +kernel
theorem dX5_callGroup_155 : decode cX5_callGroup 155 = .ok (.if_icmp .ne 34, 3) := by decide +kernel
theorem dX5_callGroup_158 : decode cX5_callGroup 158 = .ok (.aload_n 0, 1) := by decide +kernel
theorem dX5_callGroup_159 : decode cX5_callGroup 159 = .ok (.getfield 16, 3) := by decide +kernel
theorem dX5_callGroup_162 : decode cX5_callGroup 162 = .ok (.iload 7, 2) := by decide +kernel
theorem dX5_callGroup_164 : decode cX5_callGroup 164 = .ok (.iaload, 1) := by decide +kernel
theorem dX5_callGroup_165 : decode cX5_callGroup 165 = .ok (.aload_n 0, 1) := by decide +kernel
theorem dX5_callGroup_166 : decode cX5_callGroup 166 = .ok (.getfield 16, 3) := by decide +kernel
theorem dX5_callGroup_169 : decode cX5_callGroup 169 = .ok (.aload_n 0, 1) := by decide +kernel
theorem dX5_callGroup_170 : decode cX5_callGroup 170 = .ok (.getfield 56, 3) := by decide +kernel
theorem dX5_callGroup_173 : decode cX5_callGroup 173 = .ok (.bipush 6, 2) := by decide +kernel
theorem dX5_callGroup_175 : decode cX5_callGroup 175 = .ok (.iload_n 2, 1) := by decide +kernel
theorem dX5_callGroup_176 : decode cX5_callGroup 176 = .ok (.imul, 1) := by decide +kernel
theorem dX5_callGroup_177 : decode cX5_callGroup 177 = .ok (.iload 4, 2) := by decide +kernel
theorem dX5_callGroup_179 : decode cX5_callGroup 179 = .ok (.iadd, 1) := by decide +kernel
theorem dX5_callGroup_180 : decode cX5_callGroup 180 = .ok (.iaload, 1) := by decide +kernel
theorem dX5_callGroup_181 : decode cX5_callGroup 181 = .ok (.iaload, 1) := by decide +kernel
theorem dX5_callGroup_182 : decode cX5_callGroup 182 = .ok (.if_icmp .ge 7, 3) := by decide +kernel
theorem dX5_callGroup_185 : decode cX5_callGroup 185 = .ok (.iconst 1, 1) := by decide +kernel
theorem dX5_callGroup_186 : decode cX5_callGroup 186 = .ok (.goto 4, 3) := by decide +kernel
theorem dX5_callGroup_189 : decode cX5_callGroup 189 = .ok (.iconst 0, 1) := by decide +kernel
theorem dX5_callGroup_190 : decode cX5_callGroup 190 = .ok (.istore 9, 2) := by decide +kernel
theorem dX5_callGroup_192 : decode cX5_callGroup 192 = .ok (.iload 9, 2) := by decide +kernel
theorem dX5_callGroup_194 : decode cX5_callGroup 194 = .ok (.ifCond .eq 8, 3) := by decide +kernel
theorem dX5_callGroup_197 : decode cX5_callGroup 197 = .ok (.iload 6, 2) := by decide +kernel
theorem dX5_callGroup_199 : decode cX5_callGroup 199 = .ok (.goto 5, 3) := by decide +kernel
theorem dX5_callGroup_202 : decode cX5_callGroup 202 = .ok (.iload 4, 2) := by decide +kernel
theorem dX5_callGroup_204 : decode cX5_callGroup 204 = .ok (.istore 4, 2) := by decide +kernel
theorem dX5_callGroup_206 : decode cX5_callGroup 206 = .ok (.iinc 5 1, 3) := by decide +kernel
theorem dX5_callGroup_209 : decode cX5_callGroup 209 = .ok (.goto (-201), 3) := by decide +kernel
theorem dX5_callGroup_212 : decode cX5_callGroup 212 = .ok (.iload 4, 2) := by decide +kernel
theorem dX5_callGroup_214 : decode cX5_callGroup 214 = .ok (.ifCond .ge 23, 3) := by decide +kernel
theorem dX5_callGroup_217 : decode cX5_callGroup 217 = .ok (.iload_n 3, 1) := by decide +kernel
theorem dX5_callGroup_218 : decode cX5_callGroup 218 = .ok (.ifCond .eq 13, 3) := by decide +kernel
theorem dX5_callGroup_221 : decode cX5_callGroup 221 = .ok (.aload_n 0, 1) := by decide +kernel
theorem dX5_callGroup_222 : decode cX5_callGroup 222 = .ok (.dup, 1) := by decide +kernel
theorem dX5_callGroup_223 : decode cX5_callGroup 223 = .ok (.getfield 123, 3) := by decide +kernel
theorem dX5_callGroup_226 : decode cX5_callGroup 226 = .ok (.iconst 1, 1) := by decide +kernel
theorem dX5_callGroup_227 : decode cX5_callGroup 227 = .ok (.iadd, 1) := by decide +kernel
theorem dX5_callGroup_228 : decode cX5_callGroup 228 = .ok (.putfield 123, 3) := by decide +kernel
theorem dX5_callGroup_231 : decode cX5_callGroup 231 = .ok (.aload_n 0, 1) := by decide +kernel
theorem dX5_callGroup_232 : decode cX5_callGroup 232 = .ok (.iload_n 1, 1) := by decide +kernel
theorem dX5_callGroup_233 : decode cX5_callGroup 233 = .ok (.invokevirtual 117, 3) := by decide +kernel
theorem dX5_callGroup_236 : decode cX5_callGroup 236 = .ok (.return_, 1) := by decide +kernel
theorem dX5_callGroup_237 : decode cX5_callGroup 237 = .ok (.aload_n 0, 1) := by decide +kernel
theorem dX5_callGroup_238 : decode cX5_callGroup 238 = .ok (.getfield 65, 3) := by decide +kernel
theorem dX5_callGroup_241 : decode cX5_callGroup 241 = .ok (.iload_n 2, 1) := by decide +kernel
theorem dX5_callGroup_242 : decode cX5_callGroup 242 = .ok (.iload 4, 2) := by decide +kernel
theorem dX5_callGroup_244 : decode cX5_callGroup 244 = .ok (.iastore, 1) := by decide +kernel
theorem dX5_callGroup_245 : decode cX5_callGroup 245 = .ok (.aload_n 0, 1) := by decide +kernel
theorem dX5_callGroup_246 : decode cX5_callGroup 246 = .ok (.getfield 62, 3) := by decide +kernel
theorem dX5_callGroup_249 : decode cX5_callGroup 249 = .ok (.iload_n 2, 1) := by decide +kernel
theorem dX5_callGroup_250 : decode cX5_callGroup 250 = .ok (.iaload, 1) := by decide +kernel
theorem dX5_callGroup_251 : decode cX5_callGroup 251 = .ok (.iconst 3, 1) := by decide +kernel
theorem dX5_callGroup_252 : decode cX5_callGroup 252 = .ok (.if_icmp .ne 4, 3) := by decide +kernel
theorem dX5_callGroup_255 : decode cX5_callGroup 255 = .ok (.return_, 1) := by decide +kernel
theorem dX5_callGroup_256 : decode cX5_callGroup 256 = .ok (.aload_n 0, 1) := by decide +kernel
theorem dX5_callGroup_257 : decode cX5_callGroup 257 = .ok (.getfield 56, 3) := by decide +kernel
theorem dX5_callGroup_260 : decode cX5_callGroup 260 = .ok (.bipush 6, 2) := by decide +kernel
theorem dX5_callGroup_262 : decode cX5_callGroup 262 = .ok (.iload_n 2, 1) := by decide +kernel
theorem dX5_callGroup_263 : decode cX5_callGroup 263 = .ok (.imul, 1) := by decide +kernel
theorem dX5_callGroup_264 : decode cX5_callGroup 264 = .ok (.iload 4, 2) := by decide +kernel
theorem dX5_callGroup_266 : decode cX5_callGroup 266 = .ok (.iadd, 1) := by decide +kernel
theorem dX5_callGroup_267 : decode cX5_callGroup 267 = .ok (.iaload, 1) := by decide +kernel
theorem dX5_callGroup_268 : decode cX5_callGroup 268 = .ok (.istore 5, 2) := by decide +kernel
theorem dX5_callGroup_270 : decode cX5_callGroup 270 = .ok (.aload_n 0, 1) := by decide +kernel
theorem dX5_callGroup_271 : decode cX5_callGroup 271 = .ok (.iload_n 1, 1) := by decide +kernel
theorem dX5_callGroup_272 : decode cX5_callGroup 272 = .ok (.iload 5, 2) := by decide +kernel
theorem dX5_callGroup_274 : decode cX5_callGroup 274 = .ok (.aload_n 0, 1) := by decide +kernel
theorem dX5_callGroup_275 : decode cX5_callGroup 275 = .ok (.iload_n 1, 1) := by decide +kernel
theorem dX5_callGroup_276 : decode cX5_callGroup 276 = .ok (.iload 5, 2) := by decide +kernel
theorem dX5_callGroup_278 : decode cX5_callGroup 278 = .ok (.invokevirtual 120, 3) := by decide +kernel
theorem dX5_callGroup_281 : decode cX5_callGroup 281 = .ok (.invokevirtual 126, 3) := by decide +kernel
theorem dX5_callGroup_284 : decode cX5_callGroup 284 = .ok (.return_, 1) := by decide +kernel
set_option maxRecDepth 20000 in
theorem ggX5_pick_X5_busy : GoodIn wsX5_pick wsX5_busy := goodIn_r _ [9, 3, 10, 11, 12, 13, 8, 14, 1, 2, 15, 16, 17, 41, 42, 43, 44, 45, 46, 47, 48, 49, 50, 51, 52, 53, 54, 55, 56, 57, 58, 59, 60, 61, 62, 63, 64, 65] (by decide +kernel) (by decide +kernel)
set_option maxRecDepth 20000 in
theorem gX5_pick_X5_busy : GoodIn wsX5_pick (wsV RX5 117 RX5 yX5_busy wsX5_busy) := goodIn_app (goodIn_of _ (by decide +kernel)) ggX5_pick_X5_busy
set_option maxRecDepth 20000 in
theorem ggX5_pick_X5_hush : GoodIn wsX5_pick wsX5_hush := goodIn_r _ [21, 1, 3, 10, 22, 23, 24, 8, 25, 26, 11, 12, 13, 14, 2, 15, 16, 17, 41, 42, 43, 44, 45, 46, 47, 48, 49, 50, 51, 52, 53, 54, 55, 56, 57, 58, 59, 60, 61, 62, 63, 64, 65] (by decide +kernel) (by decide +kernel)
set_option maxRecDepth 20000 in
theorem gX5_pick_X5_hush : GoodIn wsX5_pick (wsV RX5 134 RX5 yX5_hush wsX5_hush) := goodIn_app (goodIn_of _ (by decide +kernel)) ggX5_pick_X5_hush
set_option maxRecDepth 20000 in
theorem ggX5_pick_X5_take : GoodIn wsX5_pick wsX5_take := goodIn_r _ [30, 31, 32, 33, 8, 34, 26, 22, 23, 24, 25, 41, 42, 43, 44, 45, 46, 47, 48, 49, 50, 51, 52, 53, 54, 55, 56, 57, 58, 59, 60, 61, 62, 63, 64, 65] (by decide +kernel) (by decide +kernel)
set_option maxRecDepth 20000 in
theorem gX5_pick_X5_take : GoodIn wsX5_pick (wsV RX5 120 RX5 yX5_take wsX5_take) := goodIn_app (goodIn_of _ (by decide +kernel)) ggX5_pick_X5_take
set_option maxRecDepth 20000 in
theorem ggX5_pick_X5_connect : GoodIn wsX5_pick wsX5_connect := goodIn_r _ [38, 3, 10, 39, 40, 15, 11, 12, 13, 8, 14, 1, 2, 16, 17, 41, 42, 43, 44, 45, 46, 47, 48, 49, 50, 51, 52, 53, 54, 55, 56, 57, 58, 59, 60, 61, 62, 63, 64, 65] (by decide +kernel) (by decide +kernel)
set_option maxRecDepth 20000 in
theorem gX5_pick_X5_connect : GoodIn wsX5_pick (wsV RX5 137 RX5 yX5_connect wsX5_connect) := goodIn_app (goodIn_of _ (by decide +kernel)) ggX5_pick_X5_connect
theorem dX5_pick_0 : decode cX5_pick 0 = .ok (.iconst (-1), 1) := by decide +kernel
theorem dX5_pick_1 : decode cX5_pick 1 = .ok (.istore_n 2, 1) := by decide +kernel
theorem dX5_pick_2 : decode cX5_pick 2 = .ok (.bipush 6, 2) := by decide +kernel
theorem dX5_pick_4 : decode cX5_pick 4 = .ok (.iload_n 1, 1) := by decide +kernel
theorem dX5_pick_5 : decode cX5_pick 5 = .ok (.bipush 6, 2) := by decide +kernel
theorem dX5_pick_7 : decode cX5_pick 7 = .ok (.idiv, 1) := by decide +kernel
theorem dX5_pick_8 : decode cX5_pick 8 = .ok (.imul, 1) := by decide +kernel
theorem dX5_pick_9 : decode cX5_pick 9 = .ok (.istore_n 3, 1) := by decide +kernel
theorem dX5_pick_10 : decode cX5_pick 10 = .ok (.iload_n 3, 1) := by decide +kernel
theorem dX5_pick_11 : decode cX5_pick 11 = .ok (.bipush 6, 2) := by decide +kernel
theorem dX5_pick_13 : decode cX5_pick 13 = .ok (.iload_n 1, 1) := by decide +kernel
theorem dX5_pick_14 : decode cX5_pick 14 = .ok (.bipush 6, 2) := by decide +kernel
theorem dX5_pick_16 : decode cX5_pick 16 = .ok (.idiv, 1) := by decide +kernel
theorem dX5_pick_17 : decode cX5_pick 17 = .ok (.imul, 1) := by decide +kernel
theorem dX5_pick_18 : decode cX5_pick 18 = .ok (.bipush 6, 2) := by decide +kernel
theorem dX5_pick_20 : decode cX5_pick 20 = .ok (.iadd, 1) := by decide +kernel
theorem dX5_pick_21 : decode cX5_pick 21 = .ok (.if_icmp .ge 56, 3) := by decide +kernel
theorem dX5_pick_24 : decode cX5_pick 24 = .ok (.aload_n 0, 1) := by decide +kernel
theorem dX5_pick_25 : decode cX5_pick 25 = .ok (.getfield 7, 3) := by decide +kernel
theorem dX5_pick_28 : decode cX5_pick 28 = .ok (.iload_n 3, 1) := by decide +kernel
theorem dX5_pick_29 : decode cX5_pick 29 = .ok (.iaload, 1) := by decide +kernel
theorem dX5_pick_30 : decode cX5_pick 30 = .ok (.iconst 4, 1) := by decide +kernel
theorem dX5_pick_31 : decode cX5_pick 31 = .ok (.if_icmp .ne 26, 3) := by decide +kernel
theorem dX5_pick_34 : decode cX5_pick 34 = .ok (.iload_n 2, 1) := by decide +kernel
theorem dX5_pick_35 : decode cX5_pick 35 = .ok (.ifCond .lt 18, 3) := by decide +kernel
theorem dX5_pick_38 : decode cX5_pick 38 = .ok (.aload_n 0, 1) := by decide +kernel
theorem dX5_pick_39 : decode cX5_pick 39 = .ok (.getfield 13, 3) := by decide +kernel
theorem dX5_pick_42 : decode cX5_pick 42 = .ok (.iload_n 3, 1) := by decide +kernel
theorem dX5_pick_43 : decode cX5_pick 43 = .ok (.iaload, 1) := by decide +kernel
theorem dX5_pick_44 : decode cX5_pick 44 = .ok (.aload_n 0, 1) := by decide +kernel
theorem dX5_pick_45 : decode cX5_pick 45 = .ok (.getfield 13, 3) := by decide +kernel
theorem dX5_pick_48 : decode cX5_pick 48 = .ok (.iload_n 2, 1) := by decide +kernel
theorem dX5_pick_49 : decode cX5_pick 49 = .ok (.iaload, 1) := by decide +kernel
theorem dX5_pick_50 : decode cX5_pick 50 = .ok (.if_icmp .ge 7, 3) := by decide +kernel
theorem dX5_pick_53 : decode cX5_pick 53 = .ok (.iconst 1, 1) := by decide +kernel
theorem dX5_pick_54 : decode cX5_pick 54 = .ok (.goto 4, 3) := by decide +kernel
theorem dX5_pick_57 : decode cX5_pick 57 = .ok (.iconst 0, 1) := by decide +kernel
theorem dX5_pick_58 : decode cX5_pick 58 = .ok (.istore 4, 2) := by decide +kernel
theorem dX5_pick_60 : decode cX5_pick 60 = .ok (.iload 4, 2) := by decide +kernel
theorem dX5_pick_62 : decode cX5_pick 62 = .ok (.ifCond .eq 7, 3) := by decide +kernel
theorem dX5_pick_65 : decode cX5_pick 65 = .ok (.iload_n 3, 1) := by decide +kernel
theorem dX5_pick_66 : decode cX5_pick 66 = .ok (.goto 4, 3) := by decide +kernel
theorem dX5_pick_69 : decode cX5_pick 69 = .ok (.iload_n 2, 1) := by decide +kernel
theorem dX5_pick_70 : decode cX5_pick 70 = .ok (.istore_n 2, 1) := by decide +kernel
theorem dX5_pick_71 : decode cX5_pick 71 = .ok (.iinc 3 1, 3) := by decide +kernel
theorem dX5_pick_74 : decode cX5_pick 74 = .ok (.goto (-64), 3) := by decide +kernel
theorem dX5_pick_77 : decode cX5_pick 77 = .ok (.iload_n 2, 1) := by decide +kernel
theorem dX5_pick_78 : decode cX5_pick 78 = .ok (.ifCond .ge 9, 3) := by decide +kernel
theorem dX5_pick_81 : decode cX5_pick 81 = .ok (.aload_n 0, 1) := by decide +kernel
theorem dX5_pick_82 : decode cX5_pick 82 = .ok (.iload_n 1, 1) := by decide +kernel
theorem dX5_pick_83 : decode cX5_pick 83 = .ok (.invokevirtual 117, 3) := by decide +kernel
theorem dX5_pick_86 : decode cX5_pick 86 = .ok (.return_, 1) := by decide +kernel
theorem dX5_pick_87 : decode cX5_pick 87 = .ok (.aload_n 0, 1) := by decide +kernel
theorem dX5_pick_88 : decode cX5_pick 88 = .ok (.getfield 22, 3) := by decide +kernel
theorem dX5_pick_91 : decode cX5_pick 91 = .ok (.iload_n 2, 1) := by decide +kernel
theorem dX5_pick_92 : decode cX5_pick 92 = .ok (.iaload, 1) := by decide +kernel
theorem dX5_pick_93 : decode cX5_pick 93 = .ok (.istore_n 3, 1) := by decide +kernel
theorem dX5_pick_94 : decode cX5_pick 94 = .ok (.aload_n 0, 1) := by decide +kernel
theorem dX5_pick_95 : decode cX5_pick 95 = .ok (.iload_n 3, 1) := by decide +kernel
theorem dX5_pick_96 : decode cX5_pick 96 = .ok (.iconst (-1), 1) := by decide +kernel
theorem dX5_pick_97 : decode cX5_pick 97 = .ok (.invokevirtual 134, 3) := by decide +kernel
theorem dX5_pick_100 : decode cX5_pick 100 = .ok (.aload_n 0, 1) := by decide +kernel
theorem dX5_pick_101 : decode cX5_pick 101 = .ok (.iload_n 3, 1) := by decide +kernel
theorem dX5_pick_102 : decode cX5_pick 102 = .ok (.iload_n 1, 1) := by decide +kernel
theorem dX5_pick_103 : decode cX5_pick 103 = .ok (.invokevirtual 120, 3) := by decide +kernel
theorem dX5_pick_106 : decode cX5_pick 106 = .ok (.istore 4, 2) := by decide +kernel
theorem dX5_pick_108 : decode cX5_pick 108 = .ok (.iload 4, 2) := by decide +kernel
theorem dX5_pick_110 : decode cX5_pick 110 = .ok (.ifCond .ge 26, 3) := by decide +kernel
theorem dX5_pick_113 : decode cX5_pick 113 = .ok (.aload_n 0, 1) := by decide +kernel
theorem dX5_pick_114 : decode cX5_pick 114 = .ok (.dup, 1) := by decide +kernel
theorem dX5_pick_115 : decode cX5_pick 115 = .ok (.getfield 123, 3) := by decide +kernel
theorem dX5_pick_118 : decode cX5_pick 118 = .ok (.iconst 1, 1) := by decide +kernel
theorem dX5_pick_119 : decode cX5_pick 119 = .ok (.iadd, 1) := by decide +kernel
theorem dX5_pick_120 : decode cX5_pick 120 = .ok (.putfield 123, 3) := by decide +kernel
theorem dX5_pick_123 : decode cX5_pick 123 = .ok (.aload_n 0, 1) := by decide +kernel
theorem dX5_pick_124 : decode cX5_pick 124 = .ok (.iload_n 3, 1) := by decide +kernel
theorem dX5_pick_125 : decode cX5_pick 125 = .ok (.invokevirtual 117, 3) := by decide +kernel
theorem dX5_pick_128 : decode cX5_pick 128 = .ok (.aload_n 0, 1) := by decide +kernel
theorem dX5_pick_129 : decode cX5_pick 129 = .ok (.iload_n 1, 1) := by decide +kernel
theorem dX5_pick_130 : decode cX5_pick 130 = .ok (.invokevirtual 117, 3) := by decide +kernel
theorem dX5_pick_133 : decode cX5_pick 133 = .ok (.goto 11, 3) := by decide +kernel
theorem dX5_pick_136 : decode cX5_pick 136 = .ok (.aload_n 0, 1) := by decide +kernel
theorem dX5_pick_137 : decode cX5_pick 137 = .ok (.iload_n 3, 1) := by decide +kernel
theorem dX5_pick_138 : decode cX5_pick 138 = .ok (.iload_n 1, 1) := by decide +kernel
theorem dX5_pick_139 : decode cX5_pick 139 = .ok (.iload 4, 2) := by decide +kernel
theorem dX5_pick_141 : decode cX5_pick 141 = .ok (.invokevirtual 137, 3) := by decide +kernel
theorem dX5_pick_144 : decode cX5_pick 144 = .ok (.return_, 1) := by decide +kernel
set_option maxRecDepth 20000 in
theorem ggX5_unpark_X5_take : GoodIn wsX5_unpark wsX5_take := goodIn_r _ [7, 8, 9, 10, 6, 11, 12, 13, 14, 15, 16, 38, 39, 40, 41, 42, 43, 44, 45, 46, 47, 48, 49, 50, 51, 52, 53, 54, 55, 56, 57, 58, 59, 60, 61, 62] (by decide +kernel) (by decide +kernel)
set_option maxRecDepth 20000 in
theorem gX5_unpark_X5_take : GoodIn wsX5_unpark (wsV RX5 120 RX5 yX5_take wsX5_take) := goodIn_app (goodIn_of _ (by decide +kernel)) ggX5_unpark_X5_take
set_option maxRecDepth 20000 in
theorem ggX5_unpark_X5_busy : GoodIn wsX5_unpark wsX5_busy := goodIn_r _ [20, 21, 22, 23, 24, 25, 6, 26, 27, 28, 29, 30, 31, 38, 39, 40, 41, 42, 43, 44, 45, 46, 47, 48, 49, 50, 51, 52, 53, 54, 55, 56, 57, 58, 59, 60, 61, 62] (by decide +kernel) (by decide +kernel)
set_option maxRecDepth 20000 in
theorem gX5_unpark_X5_busy : GoodIn wsX5_unpark (wsV RX5 117 RX5 yX5_busy wsX5_busy) := goodIn_app (goodIn_of _ (by decide +kernel)) ggX5_unpark_X5_busy
set_option maxRecDepth 20000 in
theorem ggX5_unpark_X5_connect : GoodIn wsX5_unpark wsX5_connect := goodIn_r _ [35, 21, 22, 36, 37, 29, 23, 24, 25, 6, 26, 27, 28, 30, 31, 38, 39, 40, 41, 42, 43, 44, 45, 46, 47, 48, 49, 50, 51, 52, 53, 54, 55, 56, 57, 58, 59, 60, 61, 62] (by decide +kernel) (by decide +kernel)
set_option maxRecDepth 20000 in
theorem gX5_unpark_X5_connect : GoodIn wsX5_unpark (wsV RX5 137 RX5 yX5_connect wsX5_connect) := goodIn_app (goodIn_of _ (by decide +kernel)) ggX5_unpark_X5_connect
theorem dX5_unpark_0 : decode cX5_unpark 0 = .ok (.aload_n 0, 1) := by decide +kernel
theorem dX5_unpark_1 : decode cX5_unpark 1 = .ok (.getfield 50, 3) := by decide +kernel
theorem dX5_unpark_4 : decode cX5_unpark 4 = .ok (.iload_n 2, 1) := by decide +kernel
theorem dX5_unpark_5 : decode cX5_unpark 5 = .ok (.iaload, 1) := by decide +kernel
theorem dX5_unpark_6 : decode cX5_unpark 6 = .ok (.istore_n 3, 1) := by decide +kernel
theorem dX5_unpark_7 : decode cX5_unpark 7 = .ok (.iload_n 3, 1) := by decide +kernel
theorem dX5_unpark_8 : decode cX5_unpark 8 = .ok (.ifCond .ge 7, 3) := by decide +kernel
theorem dX5_unpark_11 : decode cX5_unpark 11 = .ok (.iconst (-1), 1) := by decide +kernel
theorem dX5_unpark_12 : decode cX5_unpark 12 = .ok (.goto 9, 3) := by decide +kernel
theorem dX5_unpark_15 : decode cX5_unpark 15 = .ok (.aload_n 0, 1) := by decide +kernel
theorem dX5_unpark_16 : decode cX5_unpark 16 = .ok (.iload_n 3, 1) := by decide +kernel
theorem dX5_unpark_17 : decode cX5_unpark 17 = .ok (.iload_n 1, 1) := by decide +kernel
theorem dX5_unpark_18 : decode cX5_unpark 18 = .ok (.invokevirtual 120, 3) := by decide +kernel
theorem dX5_unpark_21 : decode cX5_unpark 21 = .ok (.istore 4, 2) := by decide +kernel
theorem dX5_unpark_23 : decode cX5_unpark 23 = .ok (.iload 4, 2) := by decide +kernel
theorem dX5_unpark_25 : decode cX5_unpark 25 = .ok (.ifCond .ge 23, 3) := by decide +kernel
theorem dX5_unpark_28 : decode cX5_unpark 28 = .ok (.iload_n 3, 1) := by decide +kernel
theorem dX5_unpark_29 : decode cX5_unpark 29 = .ok (.ifCond .lt 13, 3) := by decide +kernel
theorem dX5_unpark_32 : decode cX5_unpark 32 = .ok (.aload_n 0, 1) := by decide +kernel
theorem dX5_unpark_33 : decode cX5_unpark 33 = .ok (.dup, 1) := by decide +kernel
theorem dX5_unpark_34 : decode cX5_unpark 34 = .ok (.getfield 123, 3) := by decide +kernel
theorem dX5_unpark_37 : decode cX5_unpark 37 = .ok (.iconst 1, 1) := by decide +kernel
theorem dX5_unpark_38 : decode cX5_unpark 38 = .ok (.iadd, 1) := by decide +kernel
theorem dX5_unpark_39 : decode cX5_unpark 39 = .ok (.putfield 123, 3) := by decide +kernel
theorem dX5_unpark_42 : decode cX5_unpark 42 = .ok (.aload_n 0, 1) := by decide +kernel
theorem dX5_unpark_43 : decode cX5_unpark 43 = .ok (.iload_n 1, 1) := by decide +kernel
theorem dX5_unpark_44 : decode cX5_unpark 44 = .ok (.invokevirtual 117, 3) := by decide +kernel
theorem dX5_unpark_47 : decode cX5_unpark 47 = .ok (.return_, 1) := by decide +kernel
theorem dX5_unpark_48 : decode cX5_unpark 48 = .ok (.aload_n 0, 1) := by decide +kernel
theorem dX5_unpark_49 : decode cX5_unpark 49 = .ok (.getfield 50, 3) := by decide +kernel
theorem dX5_unpark_52 : decode cX5_unpark 52 = .ok (.iload_n 2, 1) := by decide +kernel
theorem dX5_unpark_53 : decode cX5_unpark 53 = .ok (.iconst (-1), 1) := by decide +kernel
theorem dX5_unpark_54 : decode cX5_unpark 54 = .ok (.iastore, 1) := by decide +kernel
theorem dX5_unpark_55 : decode cX5_unpark 55 = .ok (.aload_n 0, 1) := by decide +kernel
theorem dX5_unpark_56 : decode cX5_unpark 56 = .ok (.iload_n 3, 1) := by decide +kernel
theorem dX5_unpark_57 : decode cX5_unpark 57 = .ok (.iload_n 1, 1) := by decide +kernel
theorem dX5_unpark_58 : decode cX5_unpark 58 = .ok (.iload 4, 2) := by decide +kernel
theorem dX5_unpark_60 : decode cX5_unpark 60 = .ok (.invokevirtual 137, 3) := by decide +kernel
theorem dX5_unpark_63 : decode cX5_unpark 63 = .ok (.return_, 1) := by decide +kernel
set_option maxRecDepth 20000 in
theorem ggX5_settle_X5_callLine : GoodIn wsX5_settle wsX5_callLine := goodIn_r _ [8, 9, 1, 10, 11, 12, 13, 14, 7, 15, 3, 16, 17, 18, 19, 20, 21, 22, 23, 24, 25, 26, 27, 28, 29, 30, 31, 32, 33, 34, 35, 36, 37, 38, 39, 40, 41, 42, 43, 44, 45, 46, 47, 48, 49, 50, 51, 52, 53, 54, 55, 56, 57, 58, 59, 60, 61, 62, 63, 64, 65, 66, 67] (by decide +kernel) (by decide +kernel)
set_option maxRecDepth 20000 in
theorem gX5_settle_X5_callLine : GoodIn wsX5_settle (wsV RX5 104 RX5 yX5_callLine wsX5_callLine) := goodIn_app (goodIn_of _ (by decide +kernel)) ggX5_settle_X5_callLine
theorem dX5_settle_0 : decode cX5_settle 0 = .ok (.iconst 0, 1) := by decide +kernel
theorem dX5_settle_1 : decode cX5_settle 1 = .ok (.istore_n 1, 1) := by decide +kernel
theorem dX5_settle_2 : decode cX5_settle 2 = .ok (.iload_n 1, 1) := by decide +kernel
theorem dX5_settle_3 : decode cX5_settle 3 = .ok (.bipush 24, 2) := by decide +kernel
theorem dX5_settle_5 : decode cX5_settle 5 = .ok (.if_icmp .ge 54, 3) := by decide +kernel
theorem dX5_settle_8 : decode cX5_settle 8 = .ok (.aload_n 0, 1) := by decide +kernel
theorem dX5_settle_9 : decode cX5_settle 9 = .ok (.getfield 7, 3) := by decide +kernel
theorem dX5_settle_12 : decode cX5_settle 12 = .ok (.iload_n 1, 1) := by decide +kernel
theorem dX5_settle_13 : decode cX5_settle 13 = .ok (.iaload, 1) := by decide +kernel
theorem dX5_settle_14 : decode cX5_settle 14 = .ok (.ifCond .ne 39, 3) := by decide +kernel
theorem dX5_settle_17 : decode cX5_settle 17 = .ok (.aload_n 0, 1) := by decide +kernel
theorem dX5_settle_18 : decode cX5_settle 18 = .ok (.getfield 47, 3) := by decide +kernel
theorem dX5_settle_21 : decode cX5_settle 21 = .ok (.iload_n 1, 1) := by decide +kernel
theorem dX5_settle_22 : decode cX5_settle 22 = .ok (.iaload, 1) := by decide +kernel
theorem dX5_settle_23 : decode cX5_settle 23 = .ok (.ifCond .lt 30, 3) := by decide +kernel
theorem dX5_settle_26 : decode cX5_settle 26 = .ok (.aload_n 0, 1) := by decide +kernel
theorem dX5_settle_27 : decode cX5_settle 27 = .ok (.getfield 47, 3) := by decide +kernel
theorem dX5_settle_30 : decode cX5_settle 30 = .ok (.iload_n 1, 1) := by decide +kernel
theorem dX5_settle_31 : decode cX5_settle 31 = .ok (.iaload, 1) := by decide +kernel
theorem dX5_settle_32 : decode cX5_settle 32 = .ok (.istore_n 2, 1) := by decide +kernel
theorem dX5_settle_33 : decode cX5_settle 33 = .ok (.aload_n 0, 1) := by decide +kernel
theorem dX5_settle_34 : decode cX5_settle 34 = .ok (.getfield 47, 3) := by decide +kernel
theorem dX5_settle_37 : decode cX5_settle 37 = .ok (.iload_n 1, 1) := by decide +kernel
theorem dX5_settle_38 : decode cX5_settle 38 = .ok (.iconst (-1), 1) := by decide +kernel
theorem dX5_settle_39 : decode cX5_settle 39 = .ok (.iastore, 1) := by decide +kernel
theorem dX5_settle_40 : decode cX5_settle 40 = .ok (.aload_n 0, 1) := by decide +kernel
theorem dX5_settle_41 : decode cX5_settle 41 = .ok (.getfield 22, 3) := by decide +kernel
theorem dX5_settle_44 : decode cX5_settle 44 = .ok (.iload_n 2, 1) := by decide +kernel
theorem dX5_settle_45 : decode cX5_settle 45 = .ok (.iconst (-1), 1) := by decide +kernel
theorem dX5_settle_46 : decode cX5_settle 46 = .ok (.iastore, 1) := by decide +kernel
theorem dX5_settle_47 : decode cX5_settle 47 = .ok (.aload_n 0, 1) := by decide +kernel
theorem dX5_settle_48 : decode cX5_settle 48 = .ok (.iload_n 2, 1) := by decide +kernel
theorem dX5_settle_49 : decode cX5_settle 49 = .ok (.iload_n 1, 1) := by decide +kernel
theorem dX5_settle_50 : decode cX5_settle 50 = .ok (.invokevirtual 104, 3) := by decide +kernel
theorem dX5_settle_53 : decode cX5_settle 53 = .ok (.iinc 1 1, 3) := by decide +kernel
theorem dX5_settle_56 : decode cX5_settle 56 = .ok (.goto (-54), 3) := by decide +kernel
theorem dX5_settle_59 : decode cX5_settle 59 = .ok (.return_, 1) := by decide +kernel
set_option maxRecDepth 20000 in
theorem ggX5_up_X5_isLine : GoodIn wsX5_up wsX5_isLine := goodIn_r _ [7, 8, 9, 6, 10] (by decide +kernel) (by decide +kernel)
set_option maxRecDepth 20000 in
theorem gX5_up_X5_isLine : GoodIn wsX5_up (va_wsS RX5 140 yX5_isLine wsX5_isLine) := goodIn_app (goodIn_of _ (by decide +kernel)) ggX5_up_X5_isLine
set_option maxRecDepth 20000 in
theorem ggX5_up_X5_throwing : GoodIn wsX5_up wsX5_throwing := goodIn_r _ [14, 15, 68, 69, 70, 71, 72, 73, 74, 75, 76, 77, 78, 79, 80, 81, 82, 83, 84, 85, 86, 87, 88, 89, 90, 91, 92] (by decide +kernel) (by decide +kernel)
set_option maxRecDepth 20000 in
theorem gX5_up_X5_throwing : GoodIn wsX5_up (wsV RX5 144 RX5 yX5_throwing wsX5_throwing) := goodIn_app (goodIn_of _ (by decide +kernel)) ggX5_up_X5_throwing
set_option maxRecDepth 20000 in
theorem ggX5_up_X5_become : GoodIn wsX5_up wsX5_become := goodIn_r _ [19, 1, 20, 21, 22, 23, 2, 3, 68, 69, 70, 71, 72, 73, 74, 75, 76, 77, 78, 79, 80, 81, 82, 83, 84, 85, 86, 87, 88, 89, 90, 91, 92] (by decide +kernel) (by decide +kernel)
set_option maxRecDepth 20000 in
theorem gX5_up_X5_become : GoodIn wsX5_up (wsV RX5 90 RX5 yX5_become wsX5_become) := goodIn_app (goodIn_of _ (by decide +kernel)) ggX5_up_X5_become
set_option maxRecDepth 20000 in
theorem ggX5_up_X5_hush : GoodIn wsX5_up wsX5_hush := goodIn_r _ [27, 1, 2, 3, 28, 29, 30, 6, 31, 32, 16, 17, 18, 19, 20, 21, 22, 23, 68, 69, 70, 71, 72, 73, 74, 75, 76, 77, 78, 79, 80, 81, 82, 83, 84, 85, 86, 87, 88, 89, 90, 91, 92] (by decide +kernel) (by decide +kernel)
set_option maxRecDepth 20000 in
theorem gX5_up_X5_hush : GoodIn wsX5_up (wsV RX5 134 RX5 yX5_hush wsX5_hush) := goodIn_app (goodIn_of _ (by decide +kernel)) ggX5_up_X5_hush
set_option maxRecDepth 20000 in
theorem ggX5_up_X5_connect : GoodIn wsX5_up wsX5_connect := goodIn_r _ [36, 2, 3, 37, 38, 21, 16, 17, 18, 6, 19, 1, 20, 22, 23, 68, 69, 70, 71, 72, 73, 74, 75, 76, 77, 78, 79, 80, 81, 82, 83, 84, 85, 86, 87, 88, 89, 90, 91, 92] (by decide +kernel) (by decide +kernel)
set_option maxRecDepth 20000 in
theorem gX5_up_X5_connect : GoodIn wsX5_up (wsV RX5 137 RX5 yX5_connect wsX5_connect) := goodIn_app (goodIn_of _ (by decide +kernel)) ggX5_up_X5_connect
set_option maxRecDepth 20000 in
theorem ggX5_up_X5_settle : GoodIn wsX5_up wsX5_settle := goodIn_r _ [42, 1, 43, 2, 44, 45, 46, 6, 47, 48, 22, 49, 50, 51, 52, 53, 3, 16, 17, 18, 19, 20, 21, 23, 54, 55, 56, 57, 58, 59, 60, 61, 32, 28, 29, 30, 31, 62, 63, 64, 65, 66, 67, 68, 69, 70, 71, 72, 73, 74, 75, 76, 77, 78, 79, 80, 81, 82, 83, 84, 85, 86, 87, 88, 89, 90, 91, 92] (by decide +kernel) (by decide +kernel)
set_option maxRecDepth 20000 in
theorem gX5_up_X5_settle : GoodIn wsX5_up (wsV RX5 148 RX5 yX5_settle wsX5_settle) := goodIn_app (goodIn_of _ (by decide +kernel)) ggX5_up_X5_settle
theorem dX5_up_0 : decode cX5_up 0 = .ok (.iload_n 1, 1) := by decide +kernel
theorem dX5_up_1 : decode cX5_up 1 = .ok (.invokestatic 140, 3) := by decide +kernel
theorem dX5_up_4 : decode cX5_up 4 = .ok (.ifCond .ne 7, 3) := by decide +kernel
theorem dX5_up_7 : decode cX5_up 7 = .ok (.iconst 1, 1) := by decide +kernel
theorem dX5_up_8 : decode cX5_up 8 = .ok (.goto 4, 3) := by decide +kernel
theorem dX5_up_11 : decode cX5_up 11 = .ok (.iconst 0, 1) := by decide +kernel
theorem dX5_up_12 : decode cX5_up 12 = .ok (.istore_n 2, 1) := by decide +kernel
theorem dX5_up_13 : decode cX5_up 13 = .ok (.aload_n 0, 1) := by decide +kernel
theorem dX5_up_14 : decode cX5_up 14 = .ok (.iload_n 2, 1) := by decide +kernel
theorem dX5_up_15 : decode cX5_up 15 = .ok (.iload_n 2, 1) := by decide +kernel
theorem dX5_up_16 : decode cX5_up 16 = .ok (.ifCond .ne 26, 3) := by decide +kernel
theorem dX5_up_19 : decode cX5_up 19 = .ok (.aload_n 0, 1) := by decide +kernel
theorem dX5_up_20 : decode cX5_up 20 = .ok (.getfield 7, 3) := by decide +kernel
theorem dX5_up_23 : decode cX5_up 23 = .ok (.iload_n 1, 1) := by decide +kernel
theorem dX5_up_24 : decode cX5_up 24 = .ok (.iaload, 1) := by decide +kernel
theorem dX5_up_25 : decode cX5_up 25 = .ok (.ifCond .eq 17, 3) := by decide +kernel
theorem dX5_up_28 : decode cX5_up 28 = .ok (.aload_n 0, 1) := by decide +kernel
theorem dX5_up_29 : decode cX5_up 29 = .ok (.getfield 7, 3) := by decide +kernel
theorem dX5_up_32 : decode cX5_up 32 = .ok (.iload_n 1, 1) := by decide +kernel
theorem dX5_up_33 : decode cX5_up 33 = .ok (.iaload, 1) := by decide +kernel
theorem dX5_up_34 : decode cX5_up 34 = .ok (.iconst 4, 1) := by decide +kernel
theorem dX5_up_35 : decode cX5_up 35 = .ok (.if_icmp .eq 7, 3) := by decide +kernel
theorem dX5_up_38 : decode cX5_up 38 = .ok (.iconst 1, 1) := by decide +kernel
theorem dX5_up_39 : decode cX5_up 39 = .ok (.goto 4, 3) := by decide +kernel
theorem dX5_up_42 : decode cX5_up 42 = .ok (.iconst 0, 1) := by decide +kernel
theorem dX5_up_43 : decode cX5_up 43 = .ok (.invokevirtual 144, 3) := by decide +kernel
theorem dX5_up_46 : decode cX5_up 46 = .ok (.ifCond .eq 5, 3) := by decide +kernel
theorem dX5_up_49 : decode cX5_up 49 = .ok (.iconst 0, 1) := by decide +kernel
theorem dX5_up_50 : decode cX5_up 50 = .ok (.ireturn, 1) := by decide +kernel
theorem dX5_up_51 : decode cX5_up 51 = .ok (.aload_n 0, 1) := by decide +kernel
theorem dX5_up_52 : decode cX5_up 52 = .ok (.getfield 7, 3) := by decide +kernel
theorem dX5_up_55 : decode cX5_up 55 = .ok (.iload_n 1, 1) := by decide +kernel
theorem dX5_up_56 : decode cX5_up 56 = .ok (.iaload, 1) := by decide +kernel
theorem dX5_up_57 : decode cX5_up 57 = .ok (.ifCond .ne 12, 3) := by decide +kernel
theorem dX5_up_60 : decode cX5_up 60 = .ok (.aload_n 0, 1) := by decide +kernel
theorem dX5_up_61 : decode cX5_up 61 = .ok (.iload_n 1, 1) := by decide +kernel
theorem dX5_up_62 : decode cX5_up 62 = .ok (.iconst 1, 1) := by decide +kernel
theorem dX5_up_63 : decode cX5_up 63 = .ok (.invokevirtual 90, 3) := by decide +kernel
theorem dX5_up_66 : decode cX5_up 66 = .ok (.goto 28, 3) := by decide +kernel
theorem dX5_up_69 : decode cX5_up 69 = .ok (.aload_n 0, 1) := by decide +kernel
theorem dX5_up_70 : decode cX5_up 70 = .ok (.getfield 22, 3) := by decide +kernel
theorem dX5_up_73 : decode cX5_up 73 = .ok (.iload_n 1, 1) := by decide +kernel
theorem dX5_up_74 : decode cX5_up 74 = .ok (.iaload, 1) := by decide +kernel
theorem dX5_up_75 : decode cX5_up 75 = .ok (.istore_n 3, 1) := by decide +kernel
theorem dX5_up_76 : decode cX5_up 76 = .ok (.aload_n 0, 1) := by decide +kernel
theorem dX5_up_77 : decode cX5_up 77 = .ok (.iload_n 3, 1) := by decide +kernel
theorem dX5_up_78 : decode cX5_up 78 = .ok (.iload_n 1, 1) := by decide +kernel
theorem dX5_up_79 : decode cX5_up 79 = .ok (.invokevirtual 134, 3) := by decide +kernel
theorem dX5_up_82 : decode cX5_up 82 = .ok (.aload_n 0, 1) := by decide +kernel
theorem dX5_up_83 : decode cX5_up 83 = .ok (.iload_n 3, 1) := by decide +kernel
theorem dX5_up_84 : decode cX5_up 84 = .ok (.iload_n 1, 1) := by decide +kernel
theorem dX5_up_85 : decode cX5_up 85 = .ok (.aload_n 0, 1) := by decide +kernel
theorem dX5_up_86 : decode cX5_up 86 = .ok (.getfield 25, 3) := by decide +kernel
theorem dX5_up_89 : decode cX5_up 89 = .ok (.iload_n 1, 1) := by decide +kernel
theorem dX5_up_90 : decode cX5_up 90 = .ok (.iaload, 1) := by decide +kernel
theorem dX5_up_91 : decode cX5_up 91 = .ok (.invokevirtual 137, 3) := by decide +kernel
theorem dX5_up_94 : decode cX5_up 94 = .ok (.aload_n 0, 1) := by decide +kernel
theorem dX5_up_95 : decode cX5_up 95 = .ok (.invokevirtual 148, 3) := by decide +kernel
theorem dX5_up_98 : decode cX5_up 98 = .ok (.aload_n 0, 1) := by decide +kernel
theorem dX5_up_99 : decode cX5_up 99 = .ok (.getfield 7, 3) := by decide +kernel
theorem dX5_up_102 : decode cX5_up 102 = .ok (.iload_n 1, 1) := by decide +kernel
theorem dX5_up_103 : decode cX5_up 103 = .ok (.iaload, 1) := by decide +kernel
theorem dX5_up_104 : decode cX5_up 104 = .ok (.ireturn, 1) := by decide +kernel
set_option maxRecDepth 20000 in
theorem ggX5_leave_X5_finish : GoodIn wsX5_leave wsX5_finish := goodIn_r _ [9, 2, 10, 11, 12, 13, 14, 15, 16, 17, 18, 8, 19, 20, 21, 22, 23, 24, 25, 41, 42, 43, 44, 45, 46, 47, 48, 49, 50, 51, 52, 53, 54, 55, 56, 57, 58, 59, 60, 61, 62, 63, 64, 65] (by decide +kernel) (by decide +kernel)
set_option maxRecDepth 20000 in
theorem gX5_leave_X5_finish : GoodIn wsX5_leave (wsV RX5 151 RX5 yX5_finish wsX5_finish) := goodIn_app (goodIn_of _ (by decide +kernel)) ggX5_leave_X5_finish
set_option maxRecDepth 20000 in
theorem ggX5_leave_X5_busy : GoodIn wsX5_leave wsX5_busy := goodIn_r _ [29, 2, 15, 30, 31, 32, 8, 33, 1, 34, 20, 35, 36, 41, 42, 43, 44, 45, 46, 47, 48, 49, 50, 51, 52, 53, 54, 55, 56, 57, 58, 59, 60, 61, 62, 63, 64, 65] (by decide +kernel) (by decide +kernel)
set_option maxRecDepth 20000 in
theorem gX5_leave_X5_busy : GoodIn wsX5_leave (wsV RX5 117 RX5 yX5_busy wsX5_busy) := goodIn_app (goodIn_of _ (by decide +kernel)) ggX5_leave_X5_busy
set_option maxRecDepth 20000 in
theorem ggX5_leave_X5_hush : GoodIn wsX5_leave wsX5_hush := goodIn_r _ [40, 1, 2, 15, 21, 22, 23, 8, 24, 25, 30, 31, 32, 33, 34, 20, 35, 36, 41, 42, 43, 44, 45, 46, 47, 48, 49, 50, 51, 52, 53, 54, 55, 56, 57, 58, 59, 60, 61, 62, 63, 64, 65] (by decide +kernel) (by decide +kernel)
set_option maxRecDepth 20000 in
theorem gX5_leave_X5_hush : GoodIn wsX5_leave (wsV RX5 134 RX5 yX5_hush wsX5_hush) := goodIn_app (goodIn_of _ (by decide +kernel)) ggX5_leave_X5_hush
theorem dX5_leave_0 : decode cX5_leave 0 = .ok (.aload_n 0, 1) := by decide +kernel
theorem dX5_leave_1 : decode cX5_leave 1 = .ok (.getfield 7, 3) := by decide +kernel
theorem dX5_leave_4 : decode cX5_leave 4 = .ok (.iload_n 1, 1) := by decide +kernel
theorem dX5_leave_5 : decode cX5_leave 5 = .ok (.iaload, 1) := by decide +kernel
theorem dX5_leave_6 : decode cX5_leave 6 = .ok (.bipush 6, 2) := by decide +kernel
theorem dX5_leave_8 : decode cX5_leave 8 = .ok (.if_icmp .ne 23, 3) := by decide +kernel
theorem dX5_leave_11 : decode cX5_leave 11 = .ok (.aload_n 0, 1) := by decide +kernel
theorem dX5_leave_12 : decode cX5_leave 12 = .ok (.getfield 22, 3) := by decide +kernel
theorem dX5_leave_15 : decode cX5_leave 15 = .ok (.iload_n 1, 1) := by decide +kernel
theorem dX5_leave_16 : decode cX5_leave 16 = .ok (.iaload, 1) := by decide +kernel
theorem dX5_leave_17 : decode cX5_leave 17 = .ok (.istore_n 2, 1) := by decide +kernel
theorem dX5_leave_18 : decode cX5_leave 18 = .ok (.aload_n 0, 1) := by decide +kernel
theorem dX5_leave_19 : decode cX5_leave 19 = .ok (.iload_n 1, 1) := by decide +kernel
theorem dX5_leave_20 : decode cX5_leave 20 = .ok (.invokevirtual 151, 3) := by decide +kernel
theorem dX5_leave_23 : decode cX5_leave 23 = .ok (.aload_n 0, 1) := by decide +kernel
theorem dX5_leave_24 : decode cX5_leave 24 = .ok (.iload_n 2, 1) := by decide +kernel
theorem dX5_leave_25 : decode cX5_leave 25 = .ok (.invokevirtual 117, 3) := by decide +kernel
theorem dX5_leave_28 : decode cX5_leave 28 = .ok (.goto 71, 3) := by decide +kernel
theorem dX5_leave_31 : decode cX5_leave 31 = .ok (.aload_n 0, 1) := by decide +kernel
theorem dX5_leave_32 : decode cX5_leave 32 = .ok (.getfield 7, 3) := by decide +kernel
theorem dX5_leave_35 : decode cX5_leave 35 = .ok (.iload_n 1, 1) := by decide +kernel
theorem dX5_leave_36 : decode cX5_leave 36 = .ok (.iaload, 1) := by decide +kernel
theorem dX5_leave_37 : decode cX5_leave 37 = .ok (.iconst 3, 1) := by decide +kernel
theorem dX5_leave_38 : decode cX5_leave 38 = .ok (.if_icmp .ne 12, 3) := by decide +kernel
theorem dX5_leave_41 : decode cX5_leave 41 = .ok (.aload_n 0, 1) := by decide +kernel
theorem dX5_leave_42 : decode cX5_leave 42 = .ok (.iload_n 1, 1) := by decide +kernel
theorem dX5_leave_43 : decode cX5_leave 43 = .ok (.iconst (-1), 1) := by decide +kernel
theorem dX5_leave_44 : decode cX5_leave 44 = .ok (.invokevirtual 134, 3) := by decide +kernel
theorem dX5_leave_47 : decode cX5_leave 47 = .ok (.goto 52, 3) := by decide +kernel
theorem dX5_leave_50 : decode cX5_leave 50 = .ok (.aload_n 0, 1) := by decide +kernel
theorem dX5_leave_51 : decode cX5_leave 51 = .ok (.getfield 7, 3) := by decide +kernel
theorem dX5_leave_54 : decode cX5_leave 54 = .ok (.iload_n 1, 1) := by decide +kernel
theorem dX5_leave_55 : decode cX5_leave 55 = .ok (.iaload, 1) := by decide +kernel
theorem dX5_leave_56 : decode cX5_leave 56 = .ok (.bipush 7, 2) := by decide +kernel
theorem dX5_leave_58 : decode cX5_leave 58 = .ok (.if_icmp .ne 18, 3) := by decide +kernel
theorem dX5_leave_61 : decode cX5_leave 61 = .ok (.aload_n 0, 1) := by decide +kernel
theorem dX5_leave_62 : decode cX5_leave 62 = .ok (.getfield 50, 3) := by decide +kernel
theorem dX5_leave_65 : decode cX5_leave 65 = .ok (.aload_n 0, 1) := by decide +kernel
theorem dX5_leave_66 : decode cX5_leave 66 = .ok (.getfield 22, 3) := by decide +kernel
theorem dX5_leave_69 : decode cX5_leave 69 = .ok (.iload_n 1, 1) := by decide +kernel
theorem dX5_leave_70 : decode cX5_leave 70 = .ok (.iaload, 1) := by decide +kernel
theorem dX5_leave_71 : decode cX5_leave 71 = .ok (.iconst (-1), 1) := by decide +kernel
theorem dX5_leave_72 : decode cX5_leave 72 = .ok (.iastore, 1) := by decide +kernel
theorem dX5_leave_73 : decode cX5_leave 73 = .ok (.goto 26, 3) := by decide +kernel
theorem dX5_leave_76 : decode cX5_leave 76 = .ok (.aload_n 0, 1) := by decide +kernel
theorem dX5_leave_77 : decode cX5_leave 77 = .ok (.getfield 7, 3) := by decide +kernel
theorem dX5_leave_80 : decode cX5_leave 80 = .ok (.iload_n 1, 1) := by decide +kernel
theorem dX5_leave_81 : decode cX5_leave 81 = .ok (.iaload, 1) := by decide +kernel
theorem dX5_leave_82 : decode cX5_leave 82 = .ok (.bipush 8, 2) := by decide +kernel
theorem dX5_leave_84 : decode cX5_leave 84 = .ok (.if_icmp .ne 15, 3) := by decide +kernel
theorem dX5_leave_87 : decode cX5_leave 87 = .ok (.aload_n 0, 1) := by decide +kernel
theorem dX5_leave_88 : decode cX5_leave 88 = .ok (.getfield 47, 3) := by decide +kernel
theorem dX5_leave_91 : decode cX5_leave 91 = .ok (.aload_n 0, 1) := by decide +kernel
theorem dX5_leave_92 : decode cX5_leave 92 = .ok (.getfield 22, 3) := by decide +kernel
theorem dX5_leave_95 : decode cX5_leave 95 = .ok (.iload_n 1, 1) := by decide +kernel
theorem dX5_leave_96 : decode cX5_leave 96 = .ok (.iaload, 1) := by decide +kernel
theorem dX5_leave_97 : decode cX5_leave 97 = .ok (.iconst (-1), 1) := by decide +kernel
theorem dX5_leave_98 : decode cX5_leave 98 = .ok (.iastore, 1) := by decide +kernel
theorem dX5_leave_99 : decode cX5_leave 99 = .ok (.return_, 1) := by decide +kernel
set_option maxRecDepth 20000 in
theorem ggX5_down_X5_isLine : GoodIn wsX5_down wsX5_isLine := goodIn_r _ [5, 6, 7, 4, 8] (by decide +kernel) (by decide +kernel)
set_option maxRecDepth 20000 in
theorem gX5_down_X5_isLine : GoodIn wsX5_down (va_wsS RX5 140 yX5_isLine wsX5_isLine) := goodIn_app (goodIn_of _ (by decide +kernel)) ggX5_down_X5_isLine
set_option maxRecDepth 20000 in
theorem ggX5_down_X5_throwing : GoodIn wsX5_down wsX5_throwing := goodIn_r _ [12, 13, 80, 81, 82, 83, 84, 85, 86, 87, 88, 89, 90, 91, 92, 93, 94, 95, 96, 97, 98, 99, 100, 101, 102, 103, 104] (by decide +kernel) (by decide +kernel)
set_option maxRecDepth 20000 in
theorem gX5_down_X5_throwing : GoodIn wsX5_down (wsV RX5 144 RX5 yX5_throwing wsX5_throwing) := goodIn_app (goodIn_of _ (by decide +kernel)) ggX5_down_X5_throwing
set_option maxRecDepth 20000 in
theorem ggX5_down_X5_leave : GoodIn wsX5_down wsX5_leave := goodIn_r _ [17, 1, 18, 19, 20, 21, 22, 23, 4, 24, 25, 26, 27, 28, 29, 30, 31, 32, 33, 34, 35, 36, 37, 38, 39, 40, 41, 42, 43, 44, 45, 46, 47, 48, 49, 50, 51, 52, 53, 54, 55, 80, 81, 82, 83, 84, 85, 86, 87, 88, 89, 90, 91, 92, 93, 94, 95, 96, 97, 98, 99, 100, 101, 102, 103, 104] (by decide +kernel) (by decide +kernel)
set_option maxRecDepth 20000 in
theorem gX5_down_X5_leave : GoodIn wsX5_down (wsV RX5 154 RX5 yX5_leave wsX5_leave) := goodIn_app (goodIn_of _ (by decide +kernel)) ggX5_down_X5_leave
set_option maxRecDepth 20000 in
theorem ggX5_down_X5_become : GoodIn wsX5_down wsX5_become := goodIn_r _ [48, 1, 49, 35, 50, 51, 18, 30, 80, 81, 82, 83, 84, 85, 86, 87, 88, 89, 90, 91, 92, 93, 94, 95, 96, 97, 98, 99, 100, 101, 102, 103, 104] (by decide +kernel) (by decide +kernel)
set_option maxRecDepth 20000 in
theorem gX5_down_X5_become : GoodIn wsX5_down (wsV RX5 90 RX5 yX5_become wsX5_become) := goodIn_app (goodIn_of _ (by decide +kernel)) ggX5_down_X5_become
set_option maxRecDepth 20000 in
theorem ggX5_down_X5_settle : GoodIn wsX5_down wsX5_settle := goodIn_r _ [59, 1, 20, 18, 60, 61, 62, 4, 63, 64, 50, 65, 41, 42, 43, 44, 30, 45, 46, 47, 48, 49, 35, 51, 66, 67, 68, 69, 70, 71, 72, 73, 40, 36, 37, 38, 39, 74, 75, 76, 77, 78, 79, 80, 81, 82, 83, 84, 85, 86, 87, 88, 89, 90, 91, 92, 93, 94, 95, 96, 97, 98, 99, 100, 101, 102, 103, 104] (by decide +kernel) (by decide +kernel)
set_option maxRecDepth 20000 in
theorem gX5_down_X5_settle : GoodIn wsX5_down (wsV RX5 148 RX5 yX5_settle wsX5_settle) := goodIn_app (goodIn_of _ (by decide +kernel)) ggX5_down_X5_settle
theorem dX5_down_0 : decode cX5_down 0 = .ok (.iload_n 1, 1) := by decide +kernel
theorem dX5_down_1 : decode cX5_down 1 = .ok (.invokestatic 140, 3) := by decide +kernel
theorem dX5_down_4 : decode cX5_down 4 = .ok (.ifCond .ne 7, 3) := by decide +kernel
theorem dX5_down_7 : decode cX5_down 7 = .ok (.iconst 1, 1) := by decide +kernel
theorem dX5_down_8 : decode cX5_down 8 = .ok (.goto 4, 3) := by decide +kernel
theorem dX5_down_11 : decode cX5_down 11 = .ok (.iconst 0, 1) := by decide +kernel
theorem dX5_down_12 : decode cX5_down 12 = .ok (.istore_n 2, 1) := by decide +kernel
theorem dX5_down_13 : decode cX5_down 13 = .ok (.aload_n 0, 1) := by decide +kernel
theorem dX5_down_14 : decode cX5_down 14 = .ok (.iload_n 2, 1) := by decide +kernel
theorem dX5_down_15 : decode cX5_down 15 = .ok (.iload_n 2, 1) := by decide +kernel
theorem dX5_down_16 : decode cX5_down 16 = .ok (.ifCond .ne 26, 3) := by decide +kernel
theorem dX5_down_19 : decode cX5_down 19 = .ok (.aload_n 0, 1) := by decide +kernel
theorem dX5_down_20 : decode cX5_down 20 = .ok (.getfield 7, 3) := by decide +kernel
theorem dX5_down_23 : decode cX5_down 23 = .ok (.iload_n 1, 1) := by decide +kernel
theorem dX5_down_24 : decode cX5_down 24 = .ok (.iaload, 1) := by decide +kernel
theorem dX5_down_25 : decode cX5_down 25 = .ok (.ifCond .eq 13, 3) := by decide +kernel
theorem dX5_down_28 : decode cX5_down 28 = .ok (.aload_n 0, 1) := by decide +kernel
theorem dX5_down_29 : decode cX5_down 29 = .ok (.getfield 7, 3) := by decide +kernel
theorem dX5_down_32 : decode cX5_down 32 = .ok (.iload_n 1, 1) := by decide +kernel
theorem dX5_down_33 : decode cX5_down 33 = .ok (.iaload, 1) := by decide +kernel
theorem dX5_down_34 : decode cX5_down 34 = .ok (.iconst 4, 1) := by decide +kernel
theorem dX5_down_35 : decode cX5_down 35 = .ok (.if_icmp .ne 7, 3) := by decide +kernel
theorem dX5_down_38 : decode cX5_down 38 = .ok (.iconst 1, 1) := by decide +kernel
theorem dX5_down_39 : decode cX5_down 39 = .ok (.goto 4, 3) := by decide +kernel
theorem dX5_down_42 : decode cX5_down 42 = .ok (.iconst 0, 1) := by decide +kernel
theorem dX5_down_43 : decode cX5_down 43 = .ok (.invokevirtual 144, 3) := by decide +kernel
theorem dX5_down_46 : decode cX5_down 46 = .ok (.ifCond .eq 4, 3) := by decide +kernel
theorem dX5_down_49 : decode cX5_down 49 = .ok (.return_, 1) := by decide +kernel
theorem dX5_down_50 : decode cX5_down 50 = .ok (.aload_n 0, 1) := by decide +kernel
theorem dX5_down_51 : decode cX5_down 51 = .ok (.iload_n 1, 1) := by decide +kernel
theorem dX5_down_52 : decode cX5_down 52 = .ok (.invokevirtual 154, 3) := by decide +kernel
theorem dX5_down_55 : decode cX5_down 55 = .ok (.aload_n 0, 1) := by decide +kernel
theorem dX5_down_56 : decode cX5_down 56 = .ok (.iload_n 1, 1) := by decide +kernel
theorem dX5_down_57 : decode cX5_down 57 = .ok (.iconst 0, 1) := by decide +kernel
theorem dX5_down_58 : decode cX5_down 58 = .ok (.invokevirtual 90, 3) := by decide +kernel
theorem dX5_down_61 : decode cX5_down 61 = .ok (.aload_n 0, 1) := by decide +kernel
theorem dX5_down_62 : decode cX5_down 62 = .ok (.invokevirtual 148, 3) := by decide +kernel
theorem dX5_down_65 : decode cX5_down 65 = .ok (.return_, 1) := by decide +kernel
set_option maxRecDepth 20000 in
theorem ggX5_digit_X5_isLine : GoodIn wsX5_digit wsX5_isLine := goodIn_r _ [6, 7, 8, 5, 9] (by decide +kernel) (by decide +kernel)
set_option maxRecDepth 20000 in
theorem gX5_digit_X5_isLine : GoodIn wsX5_digit (va_wsS RX5 140 yX5_isLine wsX5_isLine) := goodIn_app (goodIn_of _ (by decide +kernel)) ggX5_digit_X5_isLine
set_option maxRecDepth 20000 in
theorem ggX5_digit_X5_in : GoodIn wsX5_digit wsX5_in := goodIn_r _ [9] (by decide +kernel) (by decide +kernel)
set_option maxRecDepth 20000 in
theorem gX5_digit_X5_in : GoodIn wsX5_digit (va_wsS RX5 75 yX5_in wsX5_in) := goodIn_app (goodIn_of _ (by decide +kernel)) ggX5_digit_X5_in
set_option maxRecDepth 20000 in
theorem ggX5_digit_X5_throwing : GoodIn wsX5_digit wsX5_throwing := goodIn_r _ [13, 14, 94, 95, 96, 97, 98, 99, 100, 101, 102, 103, 104, 105, 106, 107, 108, 109, 110, 111, 112, 113, 114, 115, 116, 117, 118] (by decide +kernel) (by decide +kernel)
set_option maxRecDepth 20000 in
theorem gX5_digit_X5_throwing : GoodIn wsX5_digit (wsV RX5 144 RX5 yX5_throwing wsX5_throwing) := goodIn_app (goodIn_of _ (by decide +kernel)) ggX5_digit_X5_throwing
set_option maxRecDepth 20000 in
theorem ggX5_digit_X5_become : GoodIn wsX5_digit wsX5_become := goodIn_r _ [18, 1, 19, 20, 21, 22, 23, 24, 94, 95, 96, 97, 98, 99, 100, 101, 102, 103, 104, 105, 106, 107, 108, 109, 110, 111, 112, 113, 114, 115, 116, 117, 118] (by decide +kernel) (by decide +kernel)
set_option maxRecDepth 20000 in
theorem gX5_digit_X5_become : GoodIn wsX5_digit (wsV RX5 90 RX5 yX5_become wsX5_become) := goodIn_app (goodIn_of _ (by decide +kernel)) ggX5_digit_X5_become
set_option maxRecDepth 20000 in
theorem ggX5_digit_X5_call : GoodIn wsX5_digit wsX5_call := goodIn_r _ [28, 29, 7, 8, 5, 9, 30, 31, 32, 33, 1, 21, 34, 35, 36, 37, 38, 23, 24, 15, 16, 17, 18, 19, 20, 22, 39, 40, 41, 42, 43, 44, 45, 46, 47, 48, 49, 50, 51, 52, 53, 54, 55, 56, 57, 58, 59, 60, 61, 62, 63, 64, 65, 66, 67, 68, 69, 70, 71, 72, 73, 74, 75, 76, 77, 78, 79, 80, 81, 82, 83, 84, 85, 86, 87, 88, 94, 95, 96, 97, 98, 99, 100, 101, 102, 103, 104, 105, 106, 107, 108, 109, 110, 111, 112, 113, 114, 115, 116, 117, 118] (by decide +kernel) (by decide +kernel)
set_option maxRecDepth 20000 in
theorem gX5_digit_X5_call : GoodIn wsX5_digit (wsV RX5 157 RX5 yX5_call wsX5_call) := goodIn_app (goodIn_of _ (by decide +kernel)) ggX5_digit_X5_call
set_option maxRecDepth 20000 in
theorem ggX5_digit_X5_settle : GoodIn wsX5_digit wsX5_settle := goodIn_r _ [92, 1, 93, 23, 30, 31, 32, 5, 33, 29, 21, 34, 35, 36, 37, 38, 24, 15, 16, 17, 18, 19, 20, 22, 39, 40, 41, 42, 43, 44, 45, 46, 47, 48, 49, 50, 51, 52, 53, 54, 55, 56, 57, 94, 95, 96, 97, 98, 99, 100, 101, 102, 103, 104, 105, 106, 107, 108, 109, 110, 111, 112, 113, 114, 115, 116, 117, 118] (by decide +kernel) (by decide +kernel)
set_option maxRecDepth 20000 in
theorem gX5_digit_X5_settle : GoodIn wsX5_digit (wsV RX5 148 RX5 yX5_settle wsX5_settle) := goodIn_app (goodIn_of _ (by decide +kernel)) ggX5_digit_X5_settle
theorem dX5_digit_0 : decode cX5_digit 0 = .ok (.aload_n 0, 1) := by decide +kernel
theorem dX5_digit_1 : decode cX5_digit 1 = .ok (.iload_n 1, 1) := by decide +kernel
theorem dX5_digit_2 : decode cX5_digit 2 = .ok (.invokestatic 140, 3) := by decide +kernel
theorem dX5_digit_5 : decode cX5_digit 5 = .ok (.ifCond .eq 13, 3) := by decide +kernel
theorem dX5_digit_8 : decode cX5_digit 8 = .ok (.iload_n 2, 1) := by decide +kernel
theorem dX5_digit_9 : decode cX5_digit 9 = .ok (.iconst 0, 1) := by decide +kernel
theorem dX5_digit_10 : decode cX5_digit 10 = .ok (.bipush 9, 2) := by decide +kernel
theorem dX5_digit_12 : decode cX5_digit 12 = .ok (.invokestatic 75, 3) := by decide +kernel
theorem dX5_digit_15 : decode cX5_digit 15 = .ok (.ifCond .ne 7, 3) := by decide +kernel
theorem dX5_digit_18 : decode cX5_digit 18 = .ok (.iconst 1, 1) := by decide +kernel
theorem dX5_digit_19 : decode cX5_digit 19 = .ok (.goto 4, 3) := by decide +kernel
theorem dX5_digit_22 : decode cX5_digit 22 = .ok (.iconst 0, 1) := by decide +kernel
theorem dX5_digit_23 : decode cX5_digit 23 = .ok (.iconst 0, 1) := by decide +kernel
theorem dX5_digit_24 : decode cX5_digit 24 = .ok (.invokevirtual 144, 3) := by decide +kernel
theorem dX5_digit_27 : decode cX5_digit 27 = .ok (.ifCond .eq 5, 3) := by decide +kernel
theorem dX5_digit_30 : decode cX5_digit 30 = .ok (.iconst 0, 1) := by decide +kernel
theorem dX5_digit_31 : decode cX5_digit 31 = .ok (.ireturn, 1) := by decide +kernel
theorem dX5_digit_32 : decode cX5_digit 32 = .ok (.aload_n 0, 1) := by decide +kernel
theorem dX5_digit_33 : decode cX5_digit 33 = .ok (.getfield 7, 3) := by decide +kernel
theorem dX5_digit_36 : decode cX5_digit 36 = .ok (.iload_n 1, 1) := by decide +kernel
theorem dX5_digit_37 : decode cX5_digit 37 = .ok (.iaload, 1) := by decide +kernel
theorem dX5_digit_38 : decode cX5_digit 38 = .ok (.iconst 1, 1) := by decide +kernel
theorem dX5_digit_39 : decode cX5_digit 39 = .ok (.if_icmp .ne 19, 3) := by decide +kernel
theorem dX5_digit_42 : decode cX5_digit 42 = .ok (.aload_n 0, 1) := by decide +kernel
theorem dX5_digit_43 : decode cX5_digit 43 = .ok (.iload_n 1, 1) := by decide +kernel
theorem dX5_digit_44 : decode cX5_digit 44 = .ok (.iconst 2, 1) := by decide +kernel
theorem dX5_digit_45 : decode cX5_digit 45 = .ok (.invokevirtual 90, 3) := by decide +kernel
theorem dX5_digit_48 : decode cX5_digit 48 = .ok (.aload_n 0, 1) := by decide +kernel
theorem dX5_digit_49 : decode cX5_digit 49 = .ok (.getfield 19, 3) := by decide +kernel
theorem dX5_digit_52 : decode cX5_digit 52 = .ok (.iload_n 1, 1) := by decide +kernel
theorem dX5_digit_53 : decode cX5_digit 53 = .ok (.iload_n 2, 1) := by decide +kernel
theorem dX5_digit_54 : decode cX5_digit 54 = .ok (.iastore, 1) := by decide +kernel
theorem dX5_digit_55 : decode cX5_digit 55 = .ok (.goto 33, 3) := by decide +kernel
theorem dX5_digit_58 : decode cX5_digit 58 = .ok (.aload_n 0, 1) := by decide +kernel
theorem dX5_digit_59 : decode cX5_digit 59 = .ok (.getfield 7, 3) := by decide +kernel
theorem dX5_digit_62 : decode cX5_digit 62 = .ok (.iload_n 1, 1) := by decide +kernel
theorem dX5_digit_63 : decode cX5_digit 63 = .ok (.iaload, 1) := by decide +kernel
theorem dX5_digit_64 : decode cX5_digit 64 = .ok (.iconst 2, 1) := by decide +kernel
theorem dX5_digit_65 : decode cX5_digit 65 = .ok (.if_icmp .ne 23, 3) := by decide +kernel
theorem dX5_digit_68 : decode cX5_digit 68 = .ok (.aload_n 0, 1) := by decide +kernel
theorem dX5_digit_69 : decode cX5_digit 69 = .ok (.iload_n 1, 1) := by decide +kernel
theorem dX5_digit_70 : decode cX5_digit 70 = .ok (.bipush 10, 2) := by decide +kernel
theorem dX5_digit_72 : decode cX5_digit 72 = .ok (.aload_n 0, 1) := by decide +kernel
theorem dX5_digit_73 : decode cX5_digit 73 = .ok (.getfield 19, 3) := by decide +kernel
theorem dX5_digit_76 : decode cX5_digit 76 = .ok (.iload_n 1, 1) := by decide +kernel
theorem dX5_digit_77 : decode cX5_digit 77 = .ok (.iaload, 1) := by decide +kernel
theorem dX5_digit_78 : decode cX5_digit 78 = .ok (.imul, 1) := by decide +kernel
theorem dX5_digit_79 : decode cX5_digit 79 = .ok (.iload_n 2, 1) := by decide +kernel
theorem dX5_digit_80 : decode cX5_digit 80 = .ok (.iadd, 1) := by decide +kernel
theorem dX5_digit_81 : decode cX5_digit 81 = .ok (.invokevirtual 157, 3) := by decide +kernel
theorem dX5_digit_84 : decode cX5_digit 84 = .ok (.aload_n 0, 1) := by decide +kernel
theorem dX5_digit_85 : decode cX5_digit 85 = .ok (.invokevirtual 148, 3) := by decide +kernel
theorem dX5_digit_88 : decode cX5_digit 88 = .ok (.aload_n 0, 1) := by decide +kernel
theorem dX5_digit_89 : decode cX5_digit 89 = .ok (.getfield 7, 3) := by decide +kernel
theorem dX5_digit_92 : decode cX5_digit 92 = .ok (.iload_n 1, 1) := by decide +kernel
theorem dX5_digit_93 : decode cX5_digit 93 = .ok (.iaload, 1) := by decide +kernel
theorem dX5_digit_94 : decode cX5_digit 94 = .ok (.ireturn, 1) := by decide +kernel
set_option maxRecDepth 20000 in
theorem ggX5_camp_X5_isLine : GoodIn wsX5_camp wsX5_isLine := goodIn_r _ [8, 9, 10, 7, 11] (by decide +kernel) (by decide +kernel)
set_option maxRecDepth 20000 in
theorem gX5_camp_X5_isLine : GoodIn wsX5_camp (va_wsS RX5 140 yX5_isLine wsX5_isLine) := goodIn_app (goodIn_of _ (by decide +kernel)) ggX5_camp_X5_isLine
set_option maxRecDepth 20000 in
theorem ggX5_camp_X5_throwing : GoodIn wsX5_camp wsX5_throwing := goodIn_r _ [15, 16, 25, 26, 27, 28, 29, 30, 31, 32, 33, 34, 35, 36, 37, 38, 39, 40, 41, 42, 43, 44, 45, 46, 47, 48, 49] (by decide +kernel) (by decide +kernel)
set_option maxRecDepth 20000 in
theorem gX5_camp_X5_throwing : GoodIn wsX5_camp (wsV RX5 144 RX5 yX5_throwing wsX5_throwing) := goodIn_app (goodIn_of _ (by decide +kernel)) ggX5_camp_X5_throwing
set_option maxRecDepth 20000 in
theorem ggX5_camp_X5_become : GoodIn wsX5_camp wsX5_become := goodIn_r _ [20, 2, 21, 22, 1, 23, 4, 24, 25, 26, 27, 28, 29, 30, 31, 32, 33, 34, 35, 36, 37, 38, 39, 40, 41, 42, 43, 44, 45, 46, 47, 48, 49] (by decide +kernel) (by decide +kernel)
set_option maxRecDepth 20000 in
theorem gX5_camp_X5_become : GoodIn wsX5_camp (wsV RX5 90 RX5 yX5_become wsX5_become) := goodIn_app (goodIn_of _ (by decide +kernel)) ggX5_camp_X5_become
theorem dX5_camp_0 : decode cX5_camp 0 = .ok (.iload_n 1, 1) := by decide +kernel
theorem dX5_camp_1 : decode cX5_camp 1 = .ok (.invokestatic 140, 3) := by decide +kernel
theorem dX5_camp_4 : decode cX5_camp 4 = .ok (.ifCond .ne 7, 3) := by decide +kernel
theorem dX5_camp_7 : decode cX5_camp 7 = .ok (.iconst 1, 1) := by decide +kernel
theorem dX5_camp_8 : decode cX5_camp 8 = .ok (.goto 4, 3) := by decide +kernel
theorem dX5_camp_11 : decode cX5_camp 11 = .ok (.iconst 0, 1) := by decide +kernel
theorem dX5_camp_12 : decode cX5_camp 12 = .ok (.istore_n 2, 1) := by decide +kernel
theorem dX5_camp_13 : decode cX5_camp 13 = .ok (.iload_n 2, 1) := by decide +kernel
theorem dX5_camp_14 : decode cX5_camp 14 = .ok (.ifCond .eq 7, 3) := by decide +kernel
theorem dX5_camp_17 : decode cX5_camp 17 = .ok (.iconst (-1), 1) := by decide +kernel
theorem dX5_camp_18 : decode cX5_camp 18 = .ok (.goto 9, 3) := by decide +kernel
theorem dX5_camp_21 : decode cX5_camp 21 = .ok (.aload_n 0, 1) := by decide +kernel
theorem dX5_camp_22 : decode cX5_camp 22 = .ok (.getfield 31, 3) := by decide +kernel
theorem dX5_camp_25 : decode cX5_camp 25 = .ok (.iload_n 1, 1) := by decide +kernel
theorem dX5_camp_26 : decode cX5_camp 26 = .ok (.iaload, 1) := by decide +kernel
theorem dX5_camp_27 : decode cX5_camp 27 = .ok (.istore_n 3, 1) := by decide +kernel
theorem dX5_camp_28 : decode cX5_camp 28 = .ok (.aload_n 0, 1) := by decide +kernel
theorem dX5_camp_29 : decode cX5_camp 29 = .ok (.iload_n 2, 1) := by decide +kernel
theorem dX5_camp_30 : decode cX5_camp 30 = .ok (.iload_n 2, 1) := by decide +kernel
theorem dX5_camp_31 : decode cX5_camp 31 = .ok (.ifCond .ne 39, 3) := by decide +kernel
theorem dX5_camp_34 : decode cX5_camp 34 = .ok (.aload_n 0, 1) := by decide +kernel
theorem dX5_camp_35 : decode cX5_camp 35 = .ok (.getfield 7, 3) := by decide +kernel
theorem dX5_camp_38 : decode cX5_camp 38 = .ok (.iload_n 1, 1) := by decide +kernel
theorem dX5_camp_39 : decode cX5_camp 39 = .ok (.iaload, 1) := by decide +kernel
theorem dX5_camp_40 : decode cX5_camp 40 = .ok (.iconst 5, 1) := by decide +kernel
theorem dX5_camp_41 : decode cX5_camp 41 = .ok (.if_icmp .ne 25, 3) := by decide +kernel
theorem dX5_camp_44 : decode cX5_camp 44 = .ok (.iload_n 3, 1) := by decide +kernel
theorem dX5_camp_45 : decode cX5_camp 45 = .ok (.ifCond .lt 21, 3) := by decide +kernel
theorem dX5_camp_48 : decode cX5_camp 48 = .ok (.aload_n 0, 1) := by decide +kernel
theorem dX5_camp_49 : decode cX5_camp 49 = .ok (.getfield 7, 3) := by decide +kernel
theorem dX5_camp_52 : decode cX5_camp 52 = .ok (.iload_n 3, 1) := by decide +kernel
theorem dX5_camp_53 : decode cX5_camp 53 = .ok (.iaload, 1) := by decide +kernel
theorem dX5_camp_54 : decode cX5_camp 54 = .ok (.ifCond .eq 12, 3) := by decide +kernel
theorem dX5_camp_57 : decode cX5_camp 57 = .ok (.aload_n 0, 1) := by decide +kernel
theorem dX5_camp_58 : decode cX5_camp 58 = .ok (.getfield 47, 3) := by decide +kernel
theorem dX5_camp_61 : decode cX5_camp 61 = .ok (.iload_n 3, 1) := by decide +kernel
theorem dX5_camp_62 : decode cX5_camp 62 = .ok (.iaload, 1) := by decide +kernel
theorem dX5_camp_63 : decode cX5_camp 63 = .ok (.ifCond .lt 7, 3) := by decide +kernel
theorem dX5_camp_66 : decode cX5_camp 66 = .ok (.iconst 1, 1) := by decide +kernel
theorem dX5_camp_67 : decode cX5_camp 67 = .ok (.goto 4, 3) := by decide +kernel
theorem dX5_camp_70 : decode cX5_camp 70 = .ok (.iconst 0, 1) := by decide +kernel
theorem dX5_camp_71 : decode cX5_camp 71 = .ok (.invokevirtual 144, 3) := by decide +kernel
theorem dX5_camp_74 : decode cX5_camp 74 = .ok (.ifCond .eq 5, 3) := by decide +kernel
theorem dX5_camp_77 : decode cX5_camp 77 = .ok (.iconst 0, 1) := by decide +kernel
theorem dX5_camp_78 : decode cX5_camp 78 = .ok (.ireturn, 1) := by decide +kernel
theorem dX5_camp_79 : decode cX5_camp 79 = .ok (.aload_n 0, 1) := by decide +kernel
theorem dX5_camp_80 : decode cX5_camp 80 = .ok (.iload_n 1, 1) := by decide +kernel
theorem dX5_camp_81 : decode cX5_camp 81 = .ok (.bipush 8, 2) := by decide +kernel
theorem dX5_camp_83 : decode cX5_camp 83 = .ok (.invokevirtual 90, 3) := by decide +kernel
theorem dX5_camp_86 : decode cX5_camp 86 = .ok (.aload_n 0, 1) := by decide +kernel
theorem dX5_camp_87 : decode cX5_camp 87 = .ok (.getfield 22, 3) := by decide +kernel
theorem dX5_camp_90 : decode cX5_camp 90 = .ok (.iload_n 1, 1) := by decide +kernel
theorem dX5_camp_91 : decode cX5_camp 91 = .ok (.iload_n 3, 1) := by decide +kernel
theorem dX5_camp_92 : decode cX5_camp 92 = .ok (.iastore, 1) := by decide +kernel
theorem dX5_camp_93 : decode cX5_camp 93 = .ok (.aload_n 0, 1) := by decide +kernel
theorem dX5_camp_94 : decode cX5_camp 94 = .ok (.getfield 47, 3) := by decide +kernel
theorem dX5_camp_97 : decode cX5_camp 97 = .ok (.iload_n 3, 1) := by decide +kernel
theorem dX5_camp_98 : decode cX5_camp 98 = .ok (.iload_n 1, 1) := by decide +kernel
theorem dX5_camp_99 : decode cX5_camp 99 = .ok (.iastore, 1) := by decide +kernel
theorem dX5_camp_100 : decode cX5_camp 100 = .ok (.iload_n 3, 1) := by decide +kernel
theorem dX5_camp_101 : decode cX5_camp 101 = .ok (.ireturn, 1) := by decide +kernel
set_option maxRecDepth 20000 in
theorem ggX5_park_X5_isLine : GoodIn wsX5_park wsX5_isLine := goodIn_r _ [7, 8, 9, 6, 10] (by decide +kernel) (by decide +kernel)
set_option maxRecDepth 20000 in
theorem gX5_park_X5_isLine : GoodIn wsX5_park (va_wsS RX5 140 yX5_isLine wsX5_isLine) := goodIn_app (goodIn_of _ (by decide +kernel)) ggX5_park_X5_isLine
set_option maxRecDepth 20000 in
theorem ggX5_park_X5_in : GoodIn wsX5_park wsX5_in := goodIn_r _ [10] (by decide +kernel) (by decide +kernel)
set_option maxRecDepth 20000 in
theorem gX5_park_X5_in : GoodIn wsX5_park (va_wsS RX5 75 yX5_in wsX5_in) := goodIn_app (goodIn_of _ (by decide +kernel)) ggX5_park_X5_in
set_option maxRecDepth 20000 in
theorem ggX5_park_X5_throwing : GoodIn wsX5_park wsX5_throwing := goodIn_r _ [14, 15, 47, 48, 49, 50, 51, 52, 53, 54, 55, 56, 57, 58, 59, 60, 61, 62, 63, 64, 65, 66, 67, 68, 69, 70, 71] (by decide +kernel) (by decide +kernel)
set_option maxRecDepth 20000 in
theorem gX5_park_X5_throwing : GoodIn wsX5_park (wsV RX5 144 RX5 yX5_throwing wsX5_throwing) := goodIn_app (goodIn_of _ (by decide +kernel)) ggX5_park_X5_throwing
set_option maxRecDepth 20000 in
theorem ggX5_park_X5_finish : GoodIn wsX5_park wsX5_finish := goodIn_r _ [19, 3, 20, 21, 22, 23, 24, 25, 26, 27, 28, 6, 29, 30, 31, 32, 33, 34, 35, 47, 48, 49, 50, 51, 52, 53, 54, 55, 56, 57, 58, 59, 60, 61, 62, 63, 64, 65, 66, 67, 68, 69, 70, 71] (by decide +kernel) (by decide +kernel)
set_option maxRecDepth 20000 in
theorem gX5_park_X5_finish : GoodIn wsX5_park (wsV RX5 151 RX5 yX5_finish wsX5_finish) := goodIn_app (goodIn_of _ (by decide +kernel)) ggX5_park_X5_finish
set_option maxRecDepth 20000 in
theorem ggX5_park_X5_become : GoodIn wsX5_park wsX5_become := goodIn_r _ [39, 1, 40, 30, 41, 42, 3, 25, 47, 48, 49, 50, 51, 52, 53, 54, 55, 56, 57, 58, 59, 60, 61, 62, 63, 64, 65, 66, 67, 68, 69, 70, 71] (by decide +kernel) (by decide +kernel)
set_option maxRecDepth 20000 in
theorem gX5_park_X5_become : GoodIn wsX5_park (wsV RX5 90 RX5 yX5_become wsX5_become) := goodIn_app (goodIn_of _ (by decide +kernel)) ggX5_park_X5_become
set_option maxRecDepth 20000 in
theorem ggX5_park_X5_busy : GoodIn wsX5_park wsX5_busy := goodIn_r _ [46, 3, 25, 36, 37, 38, 6, 39, 1, 40, 30, 41, 42, 47, 48, 49, 50, 51, 52, 53, 54, 55, 56, 57, 58, 59, 60, 61, 62, 63, 64, 65, 66, 67, 68, 69, 70, 71] (by decide +kernel) (by decide +kernel)
set_option maxRecDepth 20000 in
theorem gX5_park_X5_busy : GoodIn wsX5_park (wsV RX5 117 RX5 yX5_busy wsX5_busy) := goodIn_app (goodIn_of _ (by decide +kernel)) ggX5_park_X5_busy
theorem dX5_park_0 : decode cX5_park 0 = .ok (.iload_n 1, 1) := by decide +kernel
theorem dX5_park_1 : decode cX5_park 1 = .ok (.invokestatic 140, 3) := by decide +kernel
theorem dX5_park_4 : decode cX5_park 4 = .ok (.ifCond .eq 12, 3) := by decide +kernel
theorem dX5_park_7 : decode cX5_park 7 = .ok (.iload_n 2, 1) := by decide +kernel
theorem dX5_park_8 : decode cX5_park 8 = .ok (.iconst 0, 1) := by decide +kernel
theorem dX5_park_9 : decode cX5_park 9 = .ok (.iconst 3, 1) := by decide +kernel
theorem dX5_park_10 : decode cX5_park 10 = .ok (.invokestatic 75, 3) := by decide +kernel
theorem dX5_park_13 : decode cX5_park 13 = .ok (.ifCond .ne 7, 3) := by decide +kernel
theorem dX5_park_16 : decode cX5_park 16 = .ok (.iconst 1, 1) := by decide +kernel
theorem dX5_park_17 : decode cX5_park 17 = .ok (.goto 4, 3) := by decide +kernel
theorem dX5_park_20 : decode cX5_park 20 = .ok (.iconst 0, 1) := by decide +kernel
theorem dX5_park_21 : decode cX5_park 21 = .ok (.istore_n 3, 1) := by decide +kernel
theorem dX5_park_22 : decode cX5_park 22 = .ok (.aload_n 0, 1) := by decide +kernel
theorem dX5_park_23 : decode cX5_park 23 = .ok (.iload_n 3, 1) := by decide +kernel
theorem dX5_park_24 : decode cX5_park 24 = .ok (.iload_n 3, 1) := by decide +kernel
theorem dX5_park_25 : decode cX5_park 25 = .ok (.ifCond .ne 27, 3) := by decide +kernel
theorem dX5_park_28 : decode cX5_park 28 = .ok (.aload_n 0, 1) := by decide +kernel
theorem dX5_park_29 : decode cX5_park 29 = .ok (.getfield 7, 3) := by decide +kernel
theorem dX5_park_32 : decode cX5_park 32 = .ok (.iload_n 1, 1) := by decide +kernel
theorem dX5_park_33 : decode cX5_park 33 = .ok (.iaload, 1) := by decide +kernel
theorem dX5_park_34 : decode cX5_park 34 = .ok (.bipush 6, 2) := by decide +kernel
theorem dX5_park_36 : decode cX5_park 36 = .ok (.if_icmp .ne 12, 3) := by decide +kernel
theorem dX5_park_39 : decode cX5_park 39 = .ok (.aload_n 0, 1) := by decide +kernel
theorem dX5_park_40 : decode cX5_park 40 = .ok (.getfield 50, 3) := by decide +kernel
theorem dX5_park_43 : decode cX5_park 43 = .ok (.iload_n 2, 1) := by decide +kernel
theorem dX5_park_44 : decode cX5_park 44 = .ok (.iaload, 1) := by decide +kernel
theorem dX5_park_45 : decode cX5_park 45 = .ok (.ifCond .lt 7, 3) := by decide +kernel
theorem dX5_park_48 : decode cX5_park 48 = .ok (.iconst 1, 1) := by decide +kernel
theorem dX5_park_49 : decode cX5_park 49 = .ok (.goto 4, 3) := by decide +kernel
theorem dX5_park_52 : decode cX5_park 52 = .ok (.iconst 0, 1) := by decide +kernel
theorem dX5_park_53 : decode cX5_park 53 = .ok (.invokevirtual 144, 3) := by decide +kernel
theorem dX5_park_56 : decode cX5_park 56 = .ok (.ifCond .eq 5, 3) := by decide +kernel
theorem dX5_park_59 : decode cX5_park 59 = .ok (.iconst 0, 1) := by decide +kernel
theorem dX5_park_60 : decode cX5_park 60 = .ok (.ireturn, 1) := by decide +kernel
theorem dX5_park_61 : decode cX5_park 61 = .ok (.aload_n 0, 1) := by decide +kernel
theorem dX5_park_62 : decode cX5_park 62 = .ok (.getfield 22, 3) := by decide +kernel
theorem dX5_park_65 : decode cX5_park 65 = .ok (.iload_n 1, 1) := by decide +kernel
theorem dX5_park_66 : decode cX5_park 66 = .ok (.iaload, 1) := by decide +kernel
theorem dX5_park_67 : decode cX5_park 67 = .ok (.istore 4, 2) := by decide +kernel
theorem dX5_park_69 : decode cX5_park 69 = .ok (.aload_n 0, 1) := by decide +kernel
theorem dX5_park_70 : decode cX5_park 70 = .ok (.iload_n 1, 1) := by decide +kernel
theorem dX5_park_71 : decode cX5_park 71 = .ok (.invokevirtual 151, 3) := by decide +kernel
theorem dX5_park_74 : decode cX5_park 74 = .ok (.aload_n 0, 1) := by decide +kernel
theorem dX5_park_75 : decode cX5_park 75 = .ok (.iload 4, 2) := by decide +kernel
theorem dX5_park_77 : decode cX5_park 77 = .ok (.bipush 7, 2) := by decide +kernel
theorem dX5_park_79 : decode cX5_park 79 = .ok (.invokevirtual 90, 3) := by decide +kernel
theorem dX5_park_82 : decode cX5_park 82 = .ok (.aload_n 0, 1) := by decide +kernel
theorem dX5_park_83 : decode cX5_park 83 = .ok (.getfield 22, 3) := by decide +kernel
theorem dX5_park_86 : decode cX5_park 86 = .ok (.iload 4, 2) := by decide +kernel
theorem dX5_park_88 : decode cX5_park 88 = .ok (.iload_n 2, 1) := by decide +kernel
theorem dX5_park_89 : decode cX5_park 89 = .ok (.iastore, 1) := by decide +kernel
theorem dX5_park_90 : decode cX5_park 90 = .ok (.aload_n 0, 1) := by decide +kernel
theorem dX5_park_91 : decode cX5_park 91 = .ok (.getfield 50, 3) := by decide +kernel
theorem dX5_park_94 : decode cX5_park 94 = .ok (.iload_n 2, 1) := by decide +kernel
theorem dX5_park_95 : decode cX5_park 95 = .ok (.iload 4, 2) := by decide +kernel
theorem dX5_park_97 : decode cX5_park 97 = .ok (.iastore, 1) := by decide +kernel
theorem dX5_park_98 : decode cX5_park 98 = .ok (.aload_n 0, 1) := by decide +kernel
theorem dX5_park_99 : decode cX5_park 99 = .ok (.iload_n 1, 1) := by decide +kernel
theorem dX5_park_100 : decode cX5_park 100 = .ok (.invokevirtual 117, 3) := by decide +kernel
theorem dX5_park_103 : decode cX5_park 103 = .ok (.iload 4, 2) := by decide +kernel
theorem dX5_park_105 : decode cX5_park 105 = .ok (.ireturn, 1) := by decide +kernel
set_option maxRecDepth 20000 in
theorem ggX5_transfer_X5_isLine : GoodIn wsX5_transfer wsX5_isLine := goodIn_r _ [6, 7, 8, 5, 9] (by decide +kernel) (by decide +kernel)
set_option maxRecDepth 20000 in
theorem gX5_transfer_X5_isLine : GoodIn wsX5_transfer (va_wsS RX5 140 yX5_isLine wsX5_isLine) := goodIn_app (goodIn_of _ (by decide +kernel)) ggX5_transfer_X5_isLine
set_option maxRecDepth 20000 in
theorem ggX5_transfer_X5_in : GoodIn wsX5_transfer wsX5_in := goodIn_r _ [9] (by decide +kernel) (by decide +kernel)
set_option maxRecDepth 20000 in
theorem gX5_transfer_X5_in : GoodIn wsX5_transfer (va_wsS RX5 75 yX5_in wsX5_in) := goodIn_app (goodIn_of _ (by decide +kernel)) ggX5_transfer_X5_in
set_option maxRecDepth 20000 in
theorem ggX5_transfer_X5_throwing : GoodIn wsX5_transfer wsX5_throwing := goodIn_r _ [13, 14, 104, 105, 106, 107, 108, 109, 110, 111, 112, 113, 114, 115, 116, 117, 118, 119, 120, 121, 122, 123, 124, 125, 126, 127, 128] (by decide +kernel) (by decide +kernel)
set_option maxRecDepth 20000 in
theorem gX5_transfer_X5_throwing : GoodIn wsX5_transfer (wsV RX5 144 RX5 yX5_throwing wsX5_throwing) := goodIn_app (goodIn_of _ (by decide +kernel)) ggX5_transfer_X5_throwing
set_option maxRecDepth 20000 in
theorem ggX5_transfer_X5_finish : GoodIn wsX5_transfer wsX5_finish := goodIn_r _ [18, 2, 19, 20, 21, 22, 23, 24, 25, 26, 27, 5, 28, 29, 30, 31, 32, 33, 34, 104, 105, 106, 107, 108, 109, 110, 111, 112, 113, 114, 115, 116, 117, 118, 119, 120, 121, 122, 123, 124, 125, 126, 127, 128] (by decide +kernel) (by decide +kernel)
set_option maxRecDepth 20000 in
theorem gX5_transfer_X5_finish : GoodIn wsX5_transfer (wsV RX5 151 RX5 yX5_finish wsX5_finish) := goodIn_app (goodIn_of _ (by decide +kernel)) ggX5_transfer_X5_finish
set_option maxRecDepth 20000 in
theorem ggX5_transfer_X5_busy : GoodIn wsX5_transfer wsX5_busy := goodIn_r _ [38, 2, 24, 39, 40, 41, 5, 42, 1, 43, 29, 44, 45, 104, 105, 106, 107, 108, 109, 110, 111, 112, 113, 114, 115, 116, 117, 118, 119, 120, 121, 122, 123, 124, 125, 126, 127, 128] (by decide +kernel) (by decide +kernel)
set_option maxRecDepth 20000 in
theorem gX5_transfer_X5_busy : GoodIn wsX5_transfer (wsV RX5 117 RX5 yX5_busy wsX5_busy) := goodIn_app (goodIn_of _ (by decide +kernel)) ggX5_transfer_X5_busy
set_option maxRecDepth 20000 in
theorem ggX5_transfer_X5_call : GoodIn wsX5_transfer wsX5_call := goodIn_r _ [49, 50, 7, 8, 5, 9, 51, 52, 53, 54, 1, 44, 55, 35, 36, 37, 38, 2, 24, 39, 40, 41, 42, 43, 29, 45, 56, 57, 58, 59, 60, 61, 62, 63, 34, 30, 31, 32, 33, 64, 65, 66, 67, 68, 69, 70, 71, 72, 73, 74, 75, 76, 77, 78, 79, 80, 81, 82, 83, 84, 85, 86, 87, 88, 89, 90, 91, 92, 93, 19, 22, 94, 95, 96, 97, 98, 104, 105, 106, 107, 108, 109, 110, 111, 112, 113, 114, 115, 116, 117, 118, 119, 120, 121, 122, 123, 124, 125, 126, 127, 128] (by decide +kernel) (by decide +kernel)
set_option maxRecDepth 20000 in
theorem gX5_transfer_X5_call : GoodIn wsX5_transfer (wsV RX5 157 RX5 yX5_call wsX5_call) := goodIn_app (goodIn_of _ (by decide +kernel)) ggX5_transfer_X5_call
set_option maxRecDepth 20000 in
theorem ggX5_transfer_X5_settle : GoodIn wsX5_transfer wsX5_settle := goodIn_r _ [102, 1, 103, 2, 51, 52, 53, 5, 54, 50, 44, 55, 35, 36, 37, 38, 24, 39, 40, 41, 42, 43, 29, 45, 56, 57, 58, 59, 60, 61, 62, 63, 34, 30, 31, 32, 33, 64, 65, 66, 67, 68, 69, 104, 105, 106, 107, 108, 109, 110, 111, 112, 113, 114, 115, 116, 117, 118, 119, 120, 121, 122, 123, 124, 125, 126, 127, 128] (by decide +kernel) (by decide +kernel)
set_option maxRecDepth 20000 in
theorem gX5_transfer_X5_settle : GoodIn wsX5_transfer (wsV RX5 148 RX5 yX5_settle wsX5_settle) := goodIn_app (goodIn_of _ (by decide +kernel)) ggX5_transfer_X5_settle
theorem dX5_transfer_0 : decode cX5_transfer 0 = .ok (.iload_n 1, 1) := by decide +kernel
theorem dX5_transfer_1 : decode cX5_transfer 1 = .ok (.invokestatic 140, 3) := by decide +kernel
theorem dX5_transfer_4 : decode cX5_transfer 4 = .ok (.ifCond .eq 14, 3) := by decide +kernel
theorem dX5_transfer_7 : decode cX5_transfer 7 = .ok (.iload_n 2, 1) := by decide +kernel
theorem dX5_transfer_8 : decode cX5_transfer 8 = .ok (.bipush 10, 2) := by decide +kernel
theorem dX5_transfer_10 : decode cX5_transfer 10 = .ok (.bipush 99, 2) := by decide +kernel
theorem dX5_transfer_12 : decode cX5_transfer 12 = .ok (.invokestatic 75, 3) := by decide +kernel
theorem dX5_transfer_15 : decode cX5_transfer 15 = .ok (.ifCond .ne 7, 3) := by decide +kernel
theorem dX5_transfer_18 : decode cX5_transfer 18 = .ok (.iconst 1, 1) := by decide +kernel
theorem dX5_transfer_19 : decode cX5_transfer 19 = .ok (.goto 4, 3) := by decide +kernel
theorem dX5_transfer_22 : decode cX5_transfer 22 = .ok (.iconst 0, 1) := by decide +kernel
theorem dX5_transfer_23 : decode cX5_transfer 23 = .ok (.istore_n 3, 1) := by decide +kernel
theorem dX5_transfer_24 : decode cX5_transfer 24 = .ok (.aload_n 0, 1) := by decide +kernel
theorem dX5_transfer_25 : decode cX5_transfer 25 = .ok (.iload_n 3, 1) := by decide +kernel
theorem dX5_transfer_26 : decode cX5_transfer 26 = .ok (.iload_n 3, 1) := by decide +kernel
theorem dX5_transfer_27 : decode cX5_transfer 27 = .ok (.ifCond .ne 18, 3) := by decide +kernel
theorem dX5_transfer_30 : decode cX5_transfer 30 = .ok (.aload_n 0, 1) := by decide +kernel
theorem dX5_transfer_31 : decode cX5_transfer 31 = .ok (.getfield 7, 3) := by decide +kernel
theorem dX5_transfer_34 : decode cX5_transfer 34 = .ok (.iload_n 1, 1) := by decide +kernel
theorem dX5_transfer_35 : decode cX5_transfer 35 = .ok (.iaload, 1) := by decide +kernel
theorem dX5_transfer_36 : decode cX5_transfer 36 = .ok (.bipush 6, 2) := by decide +kernel
theorem dX5_transfer_38 : decode cX5_transfer 38 = .ok (.if_icmp .eq 7, 3) := by decide +kernel
theorem dX5_transfer_41 : decode cX5_transfer 41 = .ok (.iconst 1, 1) := by decide +kernel
theorem dX5_transfer_42 : decode cX5_transfer 42 = .ok (.goto 4, 3) := by decide +kernel
theorem dX5_transfer_45 : decode cX5_transfer 45 = .ok (.iconst 0, 1) := by decide +kernel
theorem dX5_transfer_46 : decode cX5_transfer 46 = .ok (.invokevirtual 144, 3) := by decide +kernel
theorem dX5_transfer_49 : decode cX5_transfer 49 = .ok (.ifCond .eq 5, 3) := by decide +kernel
theorem dX5_transfer_52 : decode cX5_transfer 52 = .ok (.iconst 0, 1) := by decide +kernel
theorem dX5_transfer_53 : decode cX5_transfer 53 = .ok (.ireturn, 1) := by decide +kernel
theorem dX5_transfer_54 : decode cX5_transfer 54 = .ok (.aload_n 0, 1) := by decide +kernel
theorem dX5_transfer_55 : decode cX5_transfer 55 = .ok (.getfield 22, 3) := by decide +kernel
theorem dX5_transfer_58 : decode cX5_transfer 58 = .ok (.iload_n 1, 1) := by decide +kernel
theorem dX5_transfer_59 : decode cX5_transfer 59 = .ok (.iaload, 1) := by decide +kernel
theorem dX5_transfer_60 : decode cX5_transfer 60 = .ok (.istore 4, 2) := by decide +kernel
theorem dX5_transfer_62 : decode cX5_transfer 62 = .ok (.aload_n 0, 1) := by decide +kernel
theorem dX5_transfer_63 : decode cX5_transfer 63 = .ok (.iload_n 1, 1) := by decide +kernel
theorem dX5_transfer_64 : decode cX5_transfer 64 = .ok (.invokevirtual 151, 3) := by decide +kernel
theorem dX5_transfer_67 : decode cX5_transfer 67 = .ok (.aload_n 0, 1) := by decide +kernel
theorem dX5_transfer_68 : decode cX5_transfer 68 = .ok (.iload_n 1, 1) := by decide +kernel
theorem dX5_transfer_69 : decode cX5_transfer 69 = .ok (.invokevirtual 117, 3) := by decide +kernel
theorem dX5_transfer_72 : decode cX5_transfer 72 = .ok (.aload_n 0, 1) := by decide +kernel
theorem dX5_transfer_73 : decode cX5_transfer 73 = .ok (.iload 4, 2) := by decide +kernel
theorem dX5_transfer_75 : decode cX5_transfer 75 = .ok (.iload_n 2, 1) := by decide +kernel
theorem dX5_transfer_76 : decode cX5_transfer 76 = .ok (.invokevirtual 157, 3) := by decide +kernel
theorem dX5_transfer_79 : decode cX5_transfer 79 = .ok (.aload_n 0, 1) := by decide +kernel
theorem dX5_transfer_80 : decode cX5_transfer 80 = .ok (.invokevirtual 148, 3) := by decide +kernel
theorem dX5_transfer_83 : decode cX5_transfer 83 = .ok (.aload_n 0, 1) := by decide +kernel
theorem dX5_transfer_84 : decode cX5_transfer 84 = .ok (.getfield 7, 3) := by decide +kernel
theorem dX5_transfer_87 : decode cX5_transfer 87 = .ok (.iload 4, 2) := by decide +kernel
theorem dX5_transfer_89 : decode cX5_transfer 89 = .ok (.iaload, 1) := by decide +kernel
theorem dX5_transfer_90 : decode cX5_transfer 90 = .ok (.ireturn, 1) := by decide +kernel
set_option maxRecDepth 20000 in
theorem ggX5_tick_X5_in : GoodIn wsX5_tick wsX5_in := goodIn_r _ [5] (by decide +kernel) (by decide +kernel)
set_option maxRecDepth 20000 in
theorem gX5_tick_X5_in : GoodIn wsX5_tick (va_wsS RX5 75 yX5_in wsX5_in) := goodIn_app (goodIn_of _ (by decide +kernel)) ggX5_tick_X5_in
set_option maxRecDepth 20000 in
theorem ggX5_tick_X5_throwing : GoodIn wsX5_tick wsX5_throwing := goodIn_r _ [9, 10, 81, 82, 83, 84, 85, 86, 87, 88, 89, 90, 91, 92, 93, 94, 95, 96, 97, 98, 99, 100, 101, 102, 103, 104, 105] (by decide +kernel) (by decide +kernel)
set_option maxRecDepth 20000 in
theorem gX5_tick_X5_throwing : GoodIn wsX5_tick (wsV RX5 144 RX5 yX5_throwing wsX5_throwing) := goodIn_app (goodIn_of _ (by decide +kernel)) ggX5_tick_X5_throwing
set_option maxRecDepth 20000 in
theorem ggX5_tick_X5_watch : GoodIn wsX5_tick wsX5_watch := goodIn_r _ [14, 15, 1, 16, 17, 18, 19, 4, 20, 21, 22, 23, 24, 25, 26, 27, 28, 29, 30, 31, 32, 33, 34, 35, 36, 37, 38, 39, 40, 41, 42, 43, 44, 45, 46, 47, 48, 49, 50, 51, 52, 53, 54, 55, 56, 57, 58, 59, 60, 61, 62, 63, 64, 65, 66, 67, 68, 69, 70, 71, 72, 73, 74, 75, 76, 77, 78, 79, 80, 81, 82, 83, 84, 85, 86, 87, 88, 89, 90, 91, 92, 93, 94, 95, 96, 97, 98, 99, 100, 101, 102, 103, 104, 105] (by decide +kernel) (by decide +kernel)
set_option maxRecDepth 20000 in
theorem gX5_tick_X5_watch : GoodIn wsX5_tick (wsV RX5 160 RX5 yX5_watch wsX5_watch) := goodIn_app (goodIn_of _ (by decide +kernel)) ggX5_tick_X5_watch
theorem dX5_tick_0 : decode cX5_tick 0 = .ok (.aload_n 0, 1) := by decide +kernel
theorem dX5_tick_1 : decode cX5_tick 1 = .ok (.iload_n 1, 1) := by decide +kernel
theorem dX5_tick_2 : decode cX5_tick 2 = .ok (.iconst 1, 1) := by decide +kernel
theorem dX5_tick_3 : decode cX5_tick 3 = .ok (.sipush 1000, 3) := by decide +kernel
theorem dX5_tick_6 : decode cX5_tick 6 = .ok (.invokestatic 75, 3) := by decide +kernel
theorem dX5_tick_9 : decode cX5_tick 9 = .ok (.ifCond .ne 7, 3) := by decide +kernel
theorem dX5_tick_12 : decode cX5_tick 12 = .ok (.iconst 1, 1) := by decide +kernel
theorem dX5_tick_13 : decode cX5_tick 13 = .ok (.goto 4, 3) := by decide +kernel
theorem dX5_tick_16 : decode cX5_tick 16 = .ok (.iconst 0, 1) := by decide +kernel
theorem dX5_tick_17 : decode cX5_tick 17 = .ok (.iconst 0, 1) := by decide +kernel
theorem dX5_tick_18 : decode cX5_tick 18 = .ok (.invokevirtual 144, 3) := by decide +kernel
theorem dX5_tick_21 : decode cX5_tick 21 = .ok (.ifCond .eq 5, 3) := by decide +kernel
theorem dX5_tick_24 : decode cX5_tick 24 = .ok (.iconst 0, 1) := by decide +kernel
theorem dX5_tick_25 : decode cX5_tick 25 = .ok (.ireturn, 1) := by decide +kernel
theorem dX5_tick_26 : decode cX5_tick 26 = .ok (.iconst 0, 1) := by decide +kernel
theorem dX5_tick_27 : decode cX5_tick 27 = .ok (.istore_n 2, 1) := by decide +kernel
theorem dX5_tick_28 : decode cX5_tick 28 = .ok (.iload_n 2, 1) := by decide +kernel
theorem dX5_tick_29 : decode cX5_tick 29 = .ok (.iload_n 1, 1) := by decide +kernel
theorem dX5_tick_30 : decode cX5_tick 30 = .ok (.if_icmp .ge 38, 3) := by decide +kernel
theorem dX5_tick_33 : decode cX5_tick 33 = .ok (.aload_n 0, 1) := by decide +kernel
theorem dX5_tick_34 : decode cX5_tick 34 = .ok (.dup, 1) := by decide +kernel
theorem dX5_tick_35 : decode cX5_tick 35 = .ok (.getfield 87, 3) := by decide +kernel
theorem dX5_tick_38 : decode cX5_tick 38 = .ok (.iconst 1, 1) := by decide +kernel
theorem dX5_tick_39 : decode cX5_tick 39 = .ok (.iadd, 1) := by decide +kernel
theorem dX5_tick_40 : decode cX5_tick 40 = .ok (.putfield 87, 3) := by decide +kernel
theorem dX5_tick_43 : decode cX5_tick 43 = .ok (.iconst 0, 1) := by decide +kernel
theorem dX5_tick_44 : decode cX5_tick 44 = .ok (.istore_n 3, 1) := by decide +kernel
theorem dX5_tick_45 : decode cX5_tick 45 = .ok (.iload_n 3, 1) := by decide +kernel
theorem dX5_tick_46 : decode cX5_tick 46 = .ok (.bipush 24, 2) := by decide +kernel
theorem dX5_tick_48 : decode cX5_tick 48 = .ok (.if_icmp .ge 14, 3) := by decide +kernel
theorem dX5_tick_51 : decode cX5_tick 51 = .ok (.aload_n 0, 1) := by decide +kernel
theorem dX5_tick_52 : decode cX5_tick 52 = .ok (.iload_n 3, 1) := by decide +kernel
theorem dX5_tick_53 : decode cX5_tick 53 = .ok (.invokevirtual 160, 3) := by decide +kernel
theorem dX5_tick_56 : decode cX5_tick 56 = .ok (.iinc 3 1, 3) := by decide +kernel
theorem dX5_tick_59 : decode cX5_tick 59 = .ok (.goto (-14), 3) := by decide +kernel
theorem dX5_tick_62 : decode cX5_tick 62 = .ok (.iinc 2 1, 3) := by decide +kernel
theorem dX5_tick_65 : decode cX5_tick 65 = .ok (.goto (-37), 3) := by decide +kernel
theorem dX5_tick_68 : decode cX5_tick 68 = .ok (.aload_n 0, 1) := by decide +kernel
theorem dX5_tick_69 : decode cX5_tick 69 = .ok (.getfield 87, 3) := by decide +kernel
theorem dX5_tick_72 : decode cX5_tick 72 = .ok (.ireturn, 1) := by decide +kernel
set_option maxRecDepth 20000 in
theorem ggX5_watch_X5_become : GoodIn wsX5_watch wsX5_become := goodIn_r _ [8, 1, 3, 2, 9, 10, 11, 12, 69, 70, 71, 72, 73, 74, 75, 76, 77, 78, 79, 80, 81, 82, 83, 84, 85, 86, 87, 88, 89, 90, 91, 92, 93] (by decide +kernel) (by decide +kernel)
set_option maxRecDepth 20000 in
theorem gX5_watch_X5_become : GoodIn wsX5_watch (wsV RX5 90 RX5 yX5_become wsX5_become) := goodIn_app (goodIn_of _ (by decide +kernel)) ggX5_watch_X5_become
set_option maxRecDepth 20000 in
theorem ggX5_watch_X5_leave : GoodIn wsX5_watch wsX5_leave := goodIn_r _ [16, 1, 11, 17, 18, 19, 20, 21, 7, 22, 23, 24, 25, 26, 27, 12, 28, 29, 30, 31, 2, 32, 33, 34, 35, 36, 37, 38, 39, 40, 4, 5, 6, 8, 3, 9, 10, 41, 42, 43, 44, 69, 70, 71, 72, 73, 74, 75, 76, 77, 78, 79, 80, 81, 82, 83, 84, 85, 86, 87, 88, 89, 90, 91, 92, 93] (by decide +kernel) (by decide +kernel)
set_option maxRecDepth 20000 in
theorem gX5_watch_X5_leave : GoodIn wsX5_watch (wsV RX5 154 RX5 yX5_leave wsX5_leave) := goodIn_app (goodIn_of _ (by decide +kernel)) ggX5_watch_X5_leave
set_option maxRecDepth 20000 in
theorem ggX5_watch_X5_busy : GoodIn wsX5_watch wsX5_busy := goodIn_r _ [40, 11, 12, 4, 5, 6, 7, 8, 1, 3, 2, 9, 10, 69, 70, 71, 72, 73, 74, 75, 76, 77, 78, 79, 80, 81, 82, 83, 84, 85, 86, 87, 88, 89, 90, 91, 92, 93] (by decide +kernel) (by decide +kernel)
set_option maxRecDepth 20000 in
theorem gX5_watch_X5_busy : GoodIn wsX5_watch (wsV RX5 117 RX5 yX5_busy wsX5_busy) := goodIn_app (goodIn_of _ (by decide +kernel)) ggX5_watch_X5_busy
set_option maxRecDepth 20000 in
theorem ggX5_watch_X5_settle : GoodIn wsX5_watch wsX5_settle := goodIn_r _ [48, 1, 18, 11, 49, 50, 51, 7, 52, 53, 9, 54, 37, 38, 39, 40, 12, 4, 5, 6, 8, 3, 2, 10, 55, 56, 57, 58, 59, 60, 61, 62, 36, 32, 33, 34, 35, 63, 64, 65, 66, 67, 68, 69, 70, 71, 72, 73, 74, 75, 76, 77, 78, 79, 80, 81, 82, 83, 84, 85, 86, 87, 88, 89, 90, 91, 92, 93] (by decide +kernel) (by decide +kernel)
set_option maxRecDepth 20000 in
theorem gX5_watch_X5_settle : GoodIn wsX5_watch (wsV RX5 148 RX5 yX5_settle wsX5_settle) := goodIn_app (goodIn_of _ (by decide +kernel)) ggX5_watch_X5_settle
theorem dX5_watch_0 : decode cX5_watch 0 = .ok (.aload_n 0, 1) := by decide +kernel
theorem dX5_watch_1 : decode cX5_watch 1 = .ok (.getfield 7, 3) := by decide +kernel
theorem dX5_watch_4 : decode cX5_watch 4 = .ok (.iload_n 1, 1) := by decide +kernel
theorem dX5_watch_5 : decode cX5_watch 5 = .ok (.iaload, 1) := by decide +kernel
theorem dX5_watch_6 : decode cX5_watch 6 = .ok (.istore_n 2, 1) := by decide +kernel
theorem dX5_watch_7 : decode cX5_watch 7 = .ok (.aload_n 0, 1) := by decide +kernel
theorem dX5_watch_8 : decode cX5_watch 8 = .ok (.getfield 87, 3) := by decide +kernel
theorem dX5_watch_11 : decode cX5_watch 11 = .ok (.aload_n 0, 1) := by decide +kernel
theorem dX5_watch_12 : decode cX5_watch 12 = .ok (.getfield 13, 3) := by decide +kernel
theorem dX5_watch_15 : decode cX5_watch 15 = .ok (.iload_n 1, 1) := by decide +kernel
theorem dX5_watch_16 : decode cX5_watch 16 = .ok (.iaload, 1) := by decide +kernel
theorem dX5_watch_17 : decode cX5_watch 17 = .ok (.isub, 1) := by decide +kernel
theorem dX5_watch_18 : decode cX5_watch 18 = .ok (.istore_n 3, 1) := by decide +kernel
theorem dX5_watch_19 : decode cX5_watch 19 = .ok (.iload_n 2, 1) := by decide +kernel
theorem dX5_watch_20 : decode cX5_watch 20 = .ok (.iconst 1, 1) := by decide +kernel
theorem dX5_watch_21 : decode cX5_watch 21 = .ok (.if_icmp .eq 8, 3) := by decide +kernel
theorem dX5_watch_24 : decode cX5_watch 24 = .ok (.iload_n 2, 1) := by decide +kernel
theorem dX5_watch_25 : decode cX5_watch 25 = .ok (.iconst 2, 1) := by decide +kernel
theorem dX5_watch_26 : decode cX5_watch 26 = .ok (.if_icmp .ne 16, 3) := by decide +kernel
theorem dX5_watch_29 : decode cX5_watch 29 = .ok (.iload_n 3, 1) := by decide +kernel
theorem dX5_watch_30 : decode cX5_watch 30 = .ok (.bipush 100, 2) := by decide +kernel
theorem dX5_watch_32 : decode cX5_watch 32 = .ok (.if_icmp .lt 10, 3) := by decide +kernel
theorem dX5_watch_35 : decode cX5_watch 35 = .ok (.aload_n 0, 1) := by decide +kernel
theorem dX5_watch_36 : decode cX5_watch 36 = .ok (.iload_n 1, 1) := by decide +kernel
theorem dX5_watch_37 : decode cX5_watch 37 = .ok (.bipush 9, 2) := by decide +kernel
theorem dX5_watch_39 : decode cX5_watch 39 = .ok (.invokevirtual 90, 3) := by decide +kernel
theorem dX5_watch_42 : decode cX5_watch 42 = .ok (.iload_n 2, 1) := by decide +kernel
theorem dX5_watch_43 : decode cX5_watch 43 = .ok (.iconst 3, 1) := by decide +kernel
theorem dX5_watch_44 : decode cX5_watch 44 = .ok (.if_icmp .ne 10, 3) := by decide +kernel
theorem dX5_watch_47 : decode cX5_watch 47 = .ok (.iload_n 3, 1) := by decide +kernel
theorem dX5_watch_48 : decode cX5_watch 48 = .ok (.sipush 300, 3) := by decide +kernel
theorem dX5_watch_51 : decode cX5_watch 51 = .ok (.if_icmp .ge 16, 3) := by decide +kernel
theorem dX5_watch_54 : decode cX5_watch 54 = .ok (.iload_n 2, 1) := by decide +kernel
theorem dX5_watch_55 : decode cX5_watch 55 = .ok (.bipush 7, 2) := by decide +kernel
theorem dX5_watch_57 : decode cX5_watch 57 = .ok (.if_icmp .ne 24, 3) := by decide +kernel
theorem dX5_watch_60 : decode cX5_watch 60 = .ok (.iload_n 3, 1) := by decide +kernel
theorem dX5_watch_61 : decode cX5_watch 61 = .ok (.sipush 600, 3) := by decide +kernel
theorem dX5_watch_64 : decode cX5_watch 64 = .ok (.if_icmp .lt 17, 3) := by decide +kernel
theorem dX5_watch_67 : decode cX5_watch 67 = .ok (.aload_n 0, 1) := by decide +kernel
theorem dX5_watch_68 : decode cX5_watch 68 = .ok (.iload_n 1, 1) := by decide +kernel
theorem dX5_watch_69 : decode cX5_watch 69 = .ok (.invokevirtual 154, 3) := by decide +kernel
theorem dX5_watch_72 : decode cX5_watch 72 = .ok (.aload_n 0, 1) := by decide +kernel
theorem dX5_watch_73 : decode cX5_watch 73 = .ok (.iload_n 1, 1) := by decide +kernel
theorem dX5_watch_74 : decode cX5_watch 74 = .ok (.invokevirtual 117, 3) := by decide +kernel
theorem dX5_watch_77 : decode cX5_watch 77 = .ok (.aload_n 0, 1) := by decide +kernel
theorem dX5_watch_78 : decode cX5_watch 78 = .ok (.invokevirtual 148, 3) := by decide +kernel
theorem dX5_watch_81 : decode cX5_watch 81 = .ok (.return_, 1) := by decide +kernel
set_option maxRecDepth 20000 in
theorem ggX5_group_X5_in : GoodIn wsX5_group wsX5_in := goodIn_r _ [8] (by decide +kernel) (by decide +kernel)
set_option maxRecDepth 20000 in
theorem gX5_group_X5_in : GoodIn wsX5_group (va_wsS RX5 75 yX5_in wsX5_in) := goodIn_app (goodIn_of _ (by decide +kernel)) ggX5_group_X5_in
set_option maxRecDepth 20000 in
theorem ggX5_group_X5_throwing : GoodIn wsX5_group wsX5_throwing := goodIn_r _ [12, 13, 14, 15, 16, 17, 18, 19, 20, 21, 22, 23, 24, 25, 26, 27, 28, 29, 30, 31, 32, 33, 34, 35, 36, 37, 38] (by decide +kernel) (by decide +kernel)
set_option maxRecDepth 20000 in
theorem gX5_group_X5_throwing : GoodIn wsX5_group (wsV RX5 144 RX5 yX5_throwing wsX5_throwing) := goodIn_app (goodIn_of _ (by decide +kernel)) ggX5_group_X5_throwing
theorem dX5_group_0 : decode cX5_group 0 = .ok (.iload_n 1, 1) := by decide +kernel
theorem dX5_group_1 : decode cX5_group 1 = .ok (.iconst 0, 1) := by decide +kernel
theorem dX5_group_2 : decode cX5_group 2 = .ok (.iconst 3, 1) := by decide +kernel
theorem dX5_group_3 : decode cX5_group 3 = .ok (.invokestatic 75, 3) := by decide +kernel
theorem dX5_group_6 : decode cX5_group 6 = .ok (.ifCond .eq 26, 3) := by decide +kernel
theorem dX5_group_9 : decode cX5_group 9 = .ok (.iload_n 2, 1) := by decide +kernel
theorem dX5_group_10 : decode cX5_group 10 = .ok (.iconst (-1), 1) := by decide +kernel
theorem dX5_group_11 : decode cX5_group 11 = .ok (.bipush 23, 2) := by decide +kernel
theorem dX5_group_13 : decode cX5_group 13 = .ok (.invokestatic 75, 3) := by decide +kernel
theorem dX5_group_16 : decode cX5_group 16 = .ok (.ifCond .eq 16, 3) := by decide +kernel
theorem dX5_group_19 : decode cX5_group 19 = .ok (.iload_n 2, 1) := by decide +kernel
theorem dX5_group_20 : decode cX5_group 20 = .ok (.ifCond .ge 16, 3) := by decide +kernel
theorem dX5_group_23 : decode cX5_group 23 = .ok (.iload_n 3, 1) := by decide +kernel
theorem dX5_group_24 : decode cX5_group 24 = .ok (.iconst 0, 1) := by decide +kernel
theorem dX5_group_25 : decode cX5_group 25 = .ok (.iconst 3, 1) := by decide +kernel
theorem dX5_group_26 : decode cX5_group 26 = .ok (.invokestatic 75, 3) := by decide +kernel
theorem dX5_group_29 : decode cX5_group 29 = .ok (.ifCond .ne 7, 3) := by decide +kernel
theorem dX5_group_32 : decode cX5_group 32 = .ok (.iconst 1, 1) := by decide +kernel
theorem dX5_group_33 : decode cX5_group 33 = .ok (.goto 4, 3) := by decide +kernel
theorem dX5_group_36 : decode cX5_group 36 = .ok (.iconst 0, 1) := by decide +kernel
theorem dX5_group_37 : decode cX5_group 37 = .ok (.istore 4, 2) := by decide +kernel
theorem dX5_group_39 : decode cX5_group 39 = .ok (.iconst 0, 1) := by decide +kernel
theorem dX5_group_40 : decode cX5_group 40 = .ok (.istore 5, 2) := by decide +kernel
theorem dX5_group_42 : decode cX5_group 42 = .ok (.iload 5, 2) := by decide +kernel
theorem dX5_group_44 : decode cX5_group 44 = .ok (.bipush 6, 2) := by decide +kernel
theorem dX5_group_46 : decode cX5_group 46 = .ok (.if_icmp .ge 52, 3) := by decide +kernel
theorem dX5_group_49 : decode cX5_group 49 = .ok (.iload 4, 2) := by decide +kernel
theorem dX5_group_51 : decode cX5_group 51 = .ok (.ifCond .ne 47, 3) := by decide +kernel
theorem dX5_group_54 : decode cX5_group 54 = .ok (.iload_n 2, 1) := by decide +kernel
theorem dX5_group_55 : decode cX5_group 55 = .ok (.ifCond .lt 43, 3) := by decide +kernel
theorem dX5_group_58 : decode cX5_group 58 = .ok (.iload 5, 2) := by decide +kernel
theorem dX5_group_60 : decode cX5_group 60 = .ok (.aload_n 0, 1) := by decide +kernel
theorem dX5_group_61 : decode cX5_group 61 = .ok (.getfield 59, 3) := by decide +kernel
theorem dX5_group_64 : decode cX5_group 64 = .ok (.iload_n 1, 1) := by decide +kernel
theorem dX5_group_65 : decode cX5_group 65 = .ok (.iaload, 1) := by decide +kernel
theorem dX5_group_66 : decode cX5_group 66 = .ok (.if_icmp .ge 23, 3) := by decide +kernel
theorem dX5_group_69 : decode cX5_group 69 = .ok (.aload_n 0, 1) := by decide +kernel
theorem dX5_group_70 : decode cX5_group 70 = .ok (.getfield 56, 3) := by decide +kernel
theorem dX5_group_73 : decode cX5_group 73 = .ok (.bipush 6, 2) := by decide +kernel
theorem dX5_group_75 : decode cX5_group 75 = .ok (.iload_n 1, 1) := by decide +kernel
theorem dX5_group_76 : decode cX5_group 76 = .ok (.imul, 1) := by decide +kernel
theorem dX5_group_77 : decode cX5_group 77 = .ok (.iload 5, 2) := by decide +kernel
theorem dX5_group_79 : decode cX5_group 79 = .ok (.iadd, 1) := by decide +kernel
theorem dX5_group_80 : decode cX5_group 80 = .ok (.iaload, 1) := by decide +kernel
theorem dX5_group_81 : decode cX5_group 81 = .ok (.iload_n 2, 1) := by decide +kernel
theorem dX5_group_82 : decode cX5_group 82 = .ok (.if_icmp .ne 7, 3) := by decide +kernel
theorem dX5_group_85 : decode cX5_group 85 = .ok (.iconst 1, 1) := by decide +kernel
theorem dX5_group_86 : decode cX5_group 86 = .ok (.goto 4, 3) := by decide +kernel
theorem dX5_group_89 : decode cX5_group 89 = .ok (.iconst 0, 1) := by decide +kernel
theorem dX5_group_90 : decode cX5_group 90 = .ok (.istore 4, 2) := by decide +kernel
theorem dX5_group_92 : decode cX5_group 92 = .ok (.iinc 5 1, 3) := by decide +kernel
theorem dX5_group_95 : decode cX5_group 95 = .ok (.goto (-53), 3) := by decide +kernel
theorem dX5_group_98 : decode cX5_group 98 = .ok (.aload_n 0, 1) := by decide +kernel
theorem dX5_group_99 : decode cX5_group 99 = .ok (.iload 4, 2) := by decide +kernel
theorem dX5_group_101 : decode cX5_group 101 = .ok (.iload 4, 2) := by decide +kernel
theorem dX5_group_103 : decode cX5_group 103 = .ok (.ifCond .ne 22, 3) := by decide +kernel
theorem dX5_group_106 : decode cX5_group 106 = .ok (.iload_n 2, 1) := by decide +kernel
theorem dX5_group_107 : decode cX5_group 107 = .ok (.ifCond .lt 18, 3) := by decide +kernel
theorem dX5_group_110 : decode cX5_group 110 = .ok (.aload_n 0, 1) := by decide +kernel
theorem dX5_group_111 : decode cX5_group 111 = .ok (.getfield 59, 3) := by decide +kernel
theorem dX5_group_114 : decode cX5_group 114 = .ok (.iload_n 1, 1) := by decide +kernel
theorem dX5_group_115 : decode cX5_group 115 = .ok (.iaload, 1) := by decide +kernel
theorem dX5_group_116 : decode cX5_group 116 = .ok (.bipush 6, 2) := by decide +kernel
theorem dX5_group_118 : decode cX5_group 118 = .ok (.if_icmp .ne 7, 3) := by decide +kernel
theorem dX5_group_121 : decode cX5_group 121 = .ok (.iconst 1, 1) := by decide +kernel
theorem dX5_group_122 : decode cX5_group 122 = .ok (.goto 4, 3) := by decide +kernel
