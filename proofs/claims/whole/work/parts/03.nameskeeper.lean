set_option maxRecDepth 20000 in
theorem ggX5_init_X3_init : GoodIn wsX5_init wsX3_init := goodIn_r _ [27, 28, 2, 3, 24, 29, 30, 31, 32, 33, 34, 35, 36, 37, 38, 39, 40, 73, 74, 75, 76, 77, 78, 79, 80, 81, 82, 83, 84, 85, 86, 87] (by decide +kernel) (by decide +kernel)
set_option maxRecDepth 20000 in
theorem gX5_init_X3_init_n9 : GoodIn wsX5_init (wsX3_init) := ggX5_init_X3_init
set_option maxRecDepth 20000 in
theorem ggX5_init_X4_init : GoodIn wsX5_init wsX4_init := goodIn_r _ [42, 43, 2, 3, 44, 24, 45, 94, 95, 96] (by decide +kernel) (by decide +kernel)
set_option maxRecDepth 20000 in
theorem gX5_init_X4_init_n18 : GoodIn wsX5_init (wsX4_init) := ggX5_init_X4_init
set_option maxRecDepth 20000 in
theorem ggX5_init_X0_init : GoodIn wsX5_init wsX0_init := goodIn_r _ [47, 48, 2, 3, 24, 49, 50, 97, 98, 99] (by decide +kernel) (by decide +kernel)
set_option maxRecDepth 20000 in
theorem gX5_init_X0_init_n25 : GoodIn wsX5_init (wsX0_init) := ggX5_init_X0_init
set_option maxRecDepth 20000 in
theorem ggX5_init_X1_init : GoodIn wsX5_init wsX1_init := goodIn_r _ [52, 53, 2, 3] (by decide +kernel) (by decide +kernel)
set_option maxRecDepth 20000 in
theorem gX5_init_X1_init_n32 : GoodIn wsX5_init (wsX1_init) := ggX5_init_X1_init
set_option maxRecDepth 20000 in
theorem ggX5_init_X2_init : GoodIn wsX5_init wsX2_init := goodIn_r _ [55, 56, 2, 3, 57, 24, 58, 59, 60, 61, 101, 102, 103] (by decide +kernel) (by decide +kernel)
set_option maxRecDepth 20000 in
theorem gX5_init_X2_init_n39 : GoodIn wsX5_init (wsX2_init) := ggX5_init_X2_init
set_option maxRecDepth 20000 in
theorem ggX5_init_X3_begin : GoodIn wsX5_init wsX3_begin := goodIn_r _ [65, 66, 67, 68, 29, 30, 31, 32, 33, 34, 35, 36, 37, 38, 39, 40, 69, 70, 71, 72, 73, 74, 75, 76, 77, 78, 79, 80, 81, 82, 83, 84, 85, 86, 87] (by decide +kernel) (by decide +kernel)
set_option maxRecDepth 20000 in
theorem gX5_init_X3_begin : GoodIn wsX5_init (wsV RX5 48 RX3 yX3_begin wsX3_begin) := goodIn_app (goodIn_of _ (by decide +kernel)) ggX5_init_X3_begin
theorem dX5_init_0 : decode cX5_init 0 = .ok (.aload_n 0, 1) := by decide +kernel
theorem dX5_init_1 : decode cX5_init 1 = .ok (.invokespecial 1, 3) := by decide +kernel
theorem dX5_init_4 : decode cX5_init 4 = .ok (.aload_n 0, 1) := by decide +kernel
theorem dX5_init_5 : decode cX5_init 5 = .ok (.new 7, 3) := by decide +kernel
theorem dX5_init_8 : decode cX5_init 8 = .ok (.dup, 1) := by decide +kernel
theorem dX5_init_9 : decode cX5_init 9 = .ok (.invokespecial 9, 3) := by decide +kernel
theorem dX5_init_12 : decode cX5_init 12 = .ok (.putfield 10, 3) := by decide +kernel
theorem dX5_init_15 : decode cX5_init 15 = .ok (.aload_n 0, 1) := by decide +kernel
theorem dX5_init_16 : decode cX5_init 16 = .ok (.new 16, 3) := by decide +kernel
theorem dX5_init_19 : decode cX5_init 19 = .ok (.dup, 1) := by decide +kernel
theorem dX5_init_20 : decode cX5_init 20 = .ok (.invokespecial 18, 3) := by decide +kernel
theorem dX5_init_23 : decode cX5_init 23 = .ok (.putfield 19, 3) := by decide +kernel
theorem dX5_init_26 : decode cX5_init 26 = .ok (.aload_n 0, 1) := by decide +kernel
theorem dX5_init_27 : decode cX5_init 27 = .ok (.new 23, 3) := by decide +kernel
theorem dX5_init_30 : decode cX5_init 30 = .ok (.dup, 1) := by decide +kernel
theorem dX5_init_31 : decode cX5_init 31 = .ok (.invokespecial 25, 3) := by decide +kernel
theorem dX5_init_34 : decode cX5_init 34 = .ok (.putfield 26, 3) := by decide +kernel
theorem dX5_init_37 : decode cX5_init 37 = .ok (.aload_n 0, 1) := by decide +kernel
theorem dX5_init_38 : decode cX5_init 38 = .ok (.new 30, 3) := by decide +kernel
theorem dX5_init_41 : decode cX5_init 41 = .ok (.dup, 1) := by decide +kernel
theorem dX5_init_42 : decode cX5_init 42 = .ok (.invokespecial 32, 3) := by decide +kernel
theorem dX5_init_45 : decode cX5_init 45 = .ok (.putfield 33, 3) := by decide +kernel
theorem dX5_init_48 : decode cX5_init 48 = .ok (.aload_n 0, 1) := by decide +kernel
theorem dX5_init_49 : decode cX5_init 49 = .ok (.new 37, 3) := by decide +kernel
theorem dX5_init_52 : decode cX5_init 52 = .ok (.dup, 1) := by decide +kernel
theorem dX5_init_53 : decode cX5_init 53 = .ok (.invokespecial 39, 3) := by decide +kernel
theorem dX5_init_56 : decode cX5_init 56 = .ok (.putfield 40, 3) := by decide +kernel
theorem dX5_init_59 : decode cX5_init 59 = .ok (.aload_n 0, 1) := by decide +kernel
theorem dX5_init_60 : decode cX5_init 60 = .ok (.bipush 83, 2) := by decide +kernel
theorem dX5_init_62 : decode cX5_init 62 = .ok (.newarray .int, 2) := by decide +kernel
theorem dX5_init_64 : decode cX5_init 64 = .ok (.putfield 44, 3) := by decide +kernel
theorem dX5_init_67 : decode cX5_init 67 = .ok (.aload_n 0, 1) := by decide +kernel
theorem dX5_init_68 : decode cX5_init 68 = .ok (.getfield 10, 3) := by decide +kernel
theorem dX5_init_71 : decode cX5_init 71 = .ok (.iconst 3, 1) := by decide +kernel
theorem dX5_init_72 : decode cX5_init 72 = .ok (.iconst 0, 1) := by decide +kernel
theorem dX5_init_73 : decode cX5_init 73 = .ok (.invokevirtual 48, 3) := by decide +kernel
theorem dX5_init_76 : decode cX5_init 76 = .ok (.return_, 1) := by decide +kernel
set_option maxRecDepth 20000 in
theorem ggX5_told_X3_heads : GoodIn wsX5_told wsX3_heads := goodIn_r _ [14, 15, 16, 90, 91, 92, 93, 94, 95, 96, 97, 98, 99, 100, 101, 102, 103, 104] (by decide +kernel) (by decide +kernel)
set_option maxRecDepth 20000 in
theorem gX5_told_X3_heads : GoodIn wsX5_told (wsV RX5 56 RX3 yX3_heads wsX3_heads) := goodIn_app (goodIn_of _ (by decide +kernel)) ggX5_told_X3_heads
set_option maxRecDepth 20000 in
theorem ggX5_told_X3_called : GoodIn wsX5_told wsX3_called := goodIn_r _ [20, 16, 21, 90, 91, 92, 93, 94, 95, 96, 97, 98, 99, 100, 101, 102, 103, 104] (by decide +kernel) (by decide +kernel)
set_option maxRecDepth 20000 in
theorem gX5_told_X3_called : GoodIn wsX5_told (wsV RX5 67 RX3 yX3_called wsX3_called) := goodIn_app (goodIn_of _ (by decide +kernel)) ggX5_told_X3_called
set_option maxRecDepth 20000 in
theorem ggX5_told_X3_wronglyClear : GoodIn wsX5_told wsX3_wronglyClear := goodIn_r _ [25, 26, 18, 19, 13, 20, 16, 21, 27, 28, 29, 30, 31, 90, 91, 92, 93, 94, 95, 96, 97, 98, 99, 100, 101, 102, 103, 104] (by decide +kernel) (by decide +kernel)
set_option maxRecDepth 20000 in
theorem gX5_told_X3_wronglyClear : GoodIn wsX5_told (wsV RX5 71 RX3 yX3_wronglyClear wsX3_wronglyClear) := goodIn_app (goodIn_of _ (by decide +kernel)) ggX5_told_X3_wronglyClear
set_option maxRecDepth 20000 in
theorem ggX5_told_X3_idle : GoodIn wsX5_told wsX3_idle := goodIn_r _ [35, 27, 28, 29, 13, 30, 16, 31, 26, 18, 19, 20, 21, 90, 91, 92, 93, 94, 95, 96, 97, 98, 99, 100, 101, 102, 103, 104] (by decide +kernel) (by decide +kernel)
set_option maxRecDepth 20000 in
theorem gX5_told_X3_idle : GoodIn wsX5_told (wsV RX5 74 RX3 yX3_idle wsX3_idle) := goodIn_app (goodIn_of _ (by decide +kernel)) ggX5_told_X3_idle
set_option maxRecDepth 20000 in
theorem ggX5_told_X3_faultyHeads : GoodIn wsX5_told wsX3_faultyHeads := goodIn_r _ [39, 40, 41, 11, 12, 13, 14, 15, 16, 90, 91, 92, 93, 94, 95, 96, 97, 98, 99, 100, 101, 102, 103, 104] (by decide +kernel) (by decide +kernel)
set_option maxRecDepth 20000 in
theorem gX5_told_X3_faultyHeads : GoodIn wsX5_told (wsV RX5 77 RX3 yX3_faultyHeads wsX3_faultyHeads) := goodIn_app (goodIn_of _ (by decide +kernel)) ggX5_told_X3_faultyHeads
set_option maxRecDepth 20000 in
theorem ggX5_told_X3_suspects : GoodIn wsX5_told wsX3_suspects := goodIn_r _ [45, 41, 11, 12, 13, 14, 15, 16, 46, 47, 48, 49, 50, 51, 52, 53, 54, 55, 56, 57, 58, 59, 60, 61, 62, 90, 91, 92, 93, 94, 95, 96, 97, 98, 99, 100, 101, 102, 103, 104] (by decide +kernel) (by decide +kernel)
set_option maxRecDepth 20000 in
theorem gX5_told_X3_suspects : GoodIn wsX5_told (wsV RX5 80 RX3 yX3_suspects wsX3_suspects) := goodIn_app (goodIn_of _ (by decide +kernel)) ggX5_told_X3_suspects
set_option maxRecDepth 20000 in
theorem ggX5_told_X3_axlesInAll : GoodIn wsX5_told wsX3_axlesInAll := goodIn_r _ [66, 16, 31, 90, 91, 92, 93, 94, 95, 96, 97, 98, 99, 100, 101, 102, 103, 104] (by decide +kernel) (by decide +kernel)
set_option maxRecDepth 20000 in
theorem gX5_told_X3_axlesInAll : GoodIn wsX5_told (wsV RX5 83 RX3 yX3_axlesInAll wsX3_axlesInAll) := goodIn_app (goodIn_of _ (by decide +kernel)) ggX5_told_X3_axlesInAll
set_option maxRecDepth 20000 in
theorem ggX5_told_X3_sumOfAll : GoodIn wsX5_told wsX3_sumOfAll := goodIn_r _ [70, 16, 54, 90, 91, 92, 93, 94, 95, 96, 97, 98, 99, 100, 101, 102, 103, 104] (by decide +kernel) (by decide +kernel)
set_option maxRecDepth 20000 in
theorem gX5_told_X3_sumOfAll : GoodIn wsX5_told (wsV RX5 86 RX3 yX3_sumOfAll wsX3_sumOfAll) := goodIn_app (goodIn_of _ (by decide +kernel)) ggX5_told_X3_sumOfAll
set_option maxRecDepth 20000 in
theorem ggX5_told_X0_firstWrong : GoodIn wsX5_told wsX0_firstWrong := goodIn_r _ [75, 76, 77, 78, 79, 80, 81, 82, 13, 83, 16, 105, 106, 107, 90, 91, 92, 93, 94, 95, 96, 97, 98, 99, 100, 101, 102, 103, 104] (by decide +kernel) (by decide +kernel)
set_option maxRecDepth 20000 in
theorem gX5_told_X0_firstWrong : GoodIn wsX5_told (wsV RX5 92 RX0 yX0_firstWrong wsX0_firstWrong) := goodIn_app (goodIn_of _ (by decide +kernel)) ggX5_told_X0_firstWrong
theorem dX5_told_0 : decode cX5_told 0 = .ok (.iload_n 1, 1) := by decide +kernel
theorem dX5_told_1 : decode cX5_told 1 = .ok (.tableswitch 239 0 16 #[83, 91, 99, 115, 123, 132, 141, 150, 159, 167, 175, 183, 191, 199, 211, 219, 231], 83) := by decide +kernel
theorem dX5_told_84 : decode cX5_told 84 = .ok (.aload_n 0, 1) := by decide +kernel
theorem dX5_told_85 : decode cX5_told 85 = .ok (.getfield 10, 3) := by decide +kernel
theorem dX5_told_88 : decode cX5_told 88 = .ok (.getfield 52, 3) := by decide +kernel
theorem dX5_told_91 : decode cX5_told 91 = .ok (.ireturn, 1) := by decide +kernel
theorem dX5_told_92 : decode cX5_told 92 = .ok (.aload_n 0, 1) := by decide +kernel
theorem dX5_told_93 : decode cX5_told 93 = .ok (.getfield 10, 3) := by decide +kernel
theorem dX5_told_96 : decode cX5_told 96 = .ok (.invokevirtual 56, 3) := by decide +kernel
theorem dX5_told_99 : decode cX5_told 99 = .ok (.ireturn, 1) := by decide +kernel
theorem dX5_told_100 : decode cX5_told 100 = .ok (.aload_n 0, 1) := by decide +kernel
theorem dX5_told_101 : decode cX5_told 101 = .ok (.getfield 10, 3) := by decide +kernel
theorem dX5_told_104 : decode cX5_told 104 = .ok (.getfield 60, 3) := by decide +kernel
theorem dX5_told_107 : decode cX5_told 107 = .ok (.ifCond .eq 7, 3) := by decide +kernel
theorem dX5_told_110 : decode cX5_told 110 = .ok (.iconst 1, 1) := by decide +kernel
theorem dX5_told_111 : decode cX5_told 111 = .ok (.goto 4, 3) := by decide +kernel
theorem dX5_told_114 : decode cX5_told 114 = .ok (.iconst 0, 1) := by decide +kernel
theorem dX5_told_115 : decode cX5_told 115 = .ok (.ireturn, 1) := by decide +kernel
theorem dX5_told_116 : decode cX5_told 116 = .ok (.aload_n 0, 1) := by decide +kernel
theorem dX5_told_117 : decode cX5_told 117 = .ok (.getfield 10, 3) := by decide +kernel
theorem dX5_told_120 : decode cX5_told 120 = .ok (.getfield 64, 3) := by decide +kernel
theorem dX5_told_123 : decode cX5_told 123 = .ok (.ireturn, 1) := by decide +kernel
theorem dX5_told_124 : decode cX5_told 124 = .ok (.aload_n 0, 1) := by decide +kernel
theorem dX5_told_125 : decode cX5_told 125 = .ok (.getfield 10, 3) := by decide +kernel
theorem dX5_told_128 : decode cX5_told 128 = .ok (.iconst 0, 1) := by decide +kernel
theorem dX5_told_129 : decode cX5_told 129 = .ok (.invokevirtual 67, 3) := by decide +kernel
theorem dX5_told_132 : decode cX5_told 132 = .ok (.ireturn, 1) := by decide +kernel
theorem dX5_told_133 : decode cX5_told 133 = .ok (.aload_n 0, 1) := by decide +kernel
theorem dX5_told_134 : decode cX5_told 134 = .ok (.getfield 10, 3) := by decide +kernel
theorem dX5_told_137 : decode cX5_told 137 = .ok (.iconst 1, 1) := by decide +kernel
theorem dX5_told_138 : decode cX5_told 138 = .ok (.invokevirtual 67, 3) := by decide +kernel
theorem dX5_told_141 : decode cX5_told 141 = .ok (.ireturn, 1) := by decide +kernel
theorem dX5_told_142 : decode cX5_told 142 = .ok (.aload_n 0, 1) := by decide +kernel
theorem dX5_told_143 : decode cX5_told 143 = .ok (.getfield 10, 3) := by decide +kernel
theorem dX5_told_146 : decode cX5_told 146 = .ok (.iconst 2, 1) := by decide +kernel
theorem dX5_told_147 : decode cX5_told 147 = .ok (.invokevirtual 67, 3) := by decide +kernel
theorem dX5_told_150 : decode cX5_told 150 = .ok (.ireturn, 1) := by decide +kernel
theorem dX5_told_151 : decode cX5_told 151 = .ok (.aload_n 0, 1) := by decide +kernel
theorem dX5_told_152 : decode cX5_told 152 = .ok (.getfield 10, 3) := by decide +kernel
theorem dX5_told_155 : decode cX5_told 155 = .ok (.iconst 3, 1) := by decide +kernel
theorem dX5_told_156 : decode cX5_told 156 = .ok (.invokevirtual 67, 3) := by decide +kernel
theorem dX5_told_159 : decode cX5_told 159 = .ok (.ireturn, 1) := by decide +kernel
theorem dX5_told_160 : decode cX5_told 160 = .ok (.aload_n 0, 1) := by decide +kernel
theorem dX5_told_161 : decode cX5_told 161 = .ok (.getfield 10, 3) := by decide +kernel
theorem dX5_told_164 : decode cX5_told 164 = .ok (.invokevirtual 71, 3) := by decide +kernel
theorem dX5_told_167 : decode cX5_told 167 = .ok (.ireturn, 1) := by decide +kernel
theorem dX5_told_168 : decode cX5_told 168 = .ok (.aload_n 0, 1) := by decide +kernel
theorem dX5_told_169 : decode cX5_told 169 = .ok (.getfield 10, 3) := by decide +kernel
theorem dX5_told_172 : decode cX5_told 172 = .ok (.invokevirtual 74, 3) := by decide +kernel
theorem dX5_told_175 : decode cX5_told 175 = .ok (.ireturn, 1) := by decide +kernel
theorem dX5_told_176 : decode cX5_told 176 = .ok (.aload_n 0, 1) := by decide +kernel
theorem dX5_told_177 : decode cX5_told 177 = .ok (.getfield 10, 3) := by decide +kernel
theorem dX5_told_180 : decode cX5_told 180 = .ok (.invokevirtual 77, 3) := by decide +kernel
theorem dX5_told_183 : decode cX5_told 183 = .ok (.ireturn, 1) := by decide +kernel
theorem dX5_told_184 : decode cX5_told 184 = .ok (.aload_n 0, 1) := by decide +kernel
theorem dX5_told_185 : decode cX5_told 185 = .ok (.getfield 10, 3) := by decide +kernel
theorem dX5_told_188 : decode cX5_told 188 = .ok (.invokevirtual 80, 3) := by decide +kernel
theorem dX5_told_191 : decode cX5_told 191 = .ok (.ireturn, 1) := by decide +kernel
theorem dX5_told_192 : decode cX5_told 192 = .ok (.aload_n 0, 1) := by decide +kernel
theorem dX5_told_193 : decode cX5_told 193 = .ok (.getfield 10, 3) := by decide +kernel
theorem dX5_told_196 : decode cX5_told 196 = .ok (.invokevirtual 83, 3) := by decide +kernel
theorem dX5_told_199 : decode cX5_told 199 = .ok (.ireturn, 1) := by decide +kernel
theorem dX5_told_200 : decode cX5_told 200 = .ok (.aload_n 0, 1) := by decide +kernel
theorem dX5_told_201 : decode cX5_told 201 = .ok (.getfield 10, 3) := by decide +kernel
theorem dX5_told_204 : decode cX5_told 204 = .ok (.invokevirtual 86, 3) := by decide +kernel
theorem dX5_told_207 : decode cX5_told 207 = .ok (.sipush 1000, 3) := by decide +kernel
theorem dX5_told_210 : decode cX5_told 210 = .ok (.iadd, 1) := by decide +kernel
theorem dX5_told_211 : decode cX5_told 211 = .ok (.ireturn, 1) := by decide +kernel
theorem dX5_told_212 : decode cX5_told 212 = .ok (.aload_n 0, 1) := by decide +kernel
theorem dX5_told_213 : decode cX5_told 213 = .ok (.getfield 26, 3) := by decide +kernel
theorem dX5_told_216 : decode cX5_told 216 = .ok (.getfield 89, 3) := by decide +kernel
theorem dX5_told_219 : decode cX5_told 219 = .ok (.ireturn, 1) := by decide +kernel
theorem dX5_told_220 : decode cX5_told 220 = .ok (.aload_n 0, 1) := by decide +kernel
theorem dX5_told_221 : decode cX5_told 221 = .ok (.getfield 26, 3) := by decide +kernel
theorem dX5_told_224 : decode cX5_told 224 = .ok (.aload_n 0, 1) := by decide +kernel
theorem dX5_told_225 : decode cX5_told 225 = .ok (.getfield 10, 3) := by decide +kernel
theorem dX5_told_228 : decode cX5_told 228 = .ok (.invokevirtual 92, 3) := by decide +kernel
theorem dX5_told_231 : decode cX5_told 231 = .ok (.ireturn, 1) := by decide +kernel
theorem dX5_told_232 : decode cX5_told 232 = .ok (.aload_n 0, 1) := by decide +kernel
theorem dX5_told_233 : decode cX5_told 233 = .ok (.getfield 19, 3) := by decide +kernel
theorem dX5_told_236 : decode cX5_told 236 = .ok (.getfield 96, 3) := by decide +kernel
theorem dX5_told_239 : decode cX5_told 239 = .ok (.ireturn, 1) := by decide +kernel
theorem dX5_told_240 : decode cX5_told 240 = .ok (.ldc 97, 2) := by decide +kernel
theorem dX5_told_242 : decode cX5_told 242 = .ok (.ireturn, 1) := by decide +kernel
set_option maxRecDepth 20000 in
theorem ggX5_section_X3_hasSection : GoodIn wsX5_section wsX3_hasSection := goodIn_r _ [12, 13, 54, 55, 56, 57, 58, 59, 60, 61, 62, 63, 64, 65, 66, 67, 68] (by decide +kernel) (by decide +kernel)
set_option maxRecDepth 20000 in
theorem gX5_section_X3_hasSection : GoodIn wsX5_section (wsV RX5 98 RX3 yX3_hasSection wsX3_hasSection) := goodIn_app (goodIn_of _ (by decide +kernel)) ggX5_section_X3_hasSection
set_option maxRecDepth 20000 in
theorem ggX5_section_X3_hasTrouble : GoodIn wsX5_section wsX3_hasTrouble := goodIn_r _ [17, 18, 19, 20, 21, 11, 22, 23, 24, 25, 26, 27, 28, 29, 30, 31, 32, 33, 13, 54, 55, 56, 57, 58, 59, 60, 61, 62, 63, 64, 65, 66, 67, 68] (by decide +kernel) (by decide +kernel)
set_option maxRecDepth 20000 in
theorem gX5_section_X3_hasTrouble : GoodIn wsX5_section (wsV RX5 112 RX3 yX3_hasTrouble wsX3_hasTrouble) := goodIn_app (goodIn_of _ (by decide +kernel)) ggX5_section_X3_hasTrouble
set_option maxRecDepth 20000 in
theorem ggX5_section_X3_lossesLeft : GoodIn wsX5_section wsX3_lossesLeft := goodIn_r _ [37, 28, 38, 39, 40, 41, 29, 30, 31, 11, 32, 33, 13, 54, 55, 56, 57, 58, 59, 60, 61, 62, 63, 64, 65, 66, 67, 68] (by decide +kernel) (by decide +kernel)
set_option maxRecDepth 20000 in
theorem gX5_section_X3_lossesLeft : GoodIn wsX5_section (wsV RX5 118 RX3 yX3_lossesLeft wsX3_lossesLeft) := goodIn_app (goodIn_of _ (by decide +kernel)) ggX5_section_X3_lossesLeft
set_option maxRecDepth 20000 in
theorem ggX5_section_X3_clearRun : GoodIn wsX5_section wsX3_clearRun := goodIn_r _ [45, 13, 46, 33, 47, 9, 10, 11, 12, 54, 55, 56, 57, 58, 59, 60, 61, 62, 63, 64, 65, 66, 67, 68] (by decide +kernel) (by decide +kernel)
set_option maxRecDepth 20000 in
theorem gX5_section_X3_clearRun : GoodIn wsX5_section (wsV RX5 121 RX3 yX3_clearRun wsX3_clearRun) := goodIn_app (goodIn_of _ (by decide +kernel)) ggX5_section_X3_clearRun
theorem dX5_section_0 : decode cX5_section 0 = .ok (.aload_n 0, 1) := by decide +kernel
theorem dX5_section_1 : decode cX5_section 1 = .ok (.getfield 10, 3) := by decide +kernel
theorem dX5_section_4 : decode cX5_section 4 = .ok (.iload_n 1, 1) := by decide +kernel
theorem dX5_section_5 : decode cX5_section 5 = .ok (.invokevirtual 98, 3) := by decide +kernel
theorem dX5_section_8 : decode cX5_section 8 = .ok (.ifCond .ne 6, 3) := by decide +kernel
theorem dX5_section_11 : decode cX5_section 11 = .ok (.ldc 102, 2) := by decide +kernel
theorem dX5_section_13 : decode cX5_section 13 = .ok (.ireturn, 1) := by decide +kernel
theorem dX5_section_14 : decode cX5_section 14 = .ok (.iload_n 2, 1) := by decide +kernel
theorem dX5_section_15 : decode cX5_section 15 = .ok (.tableswitch 137 0 6 #[41, 51, 65, 75, 92, 119, 128], 41) := by decide +kernel
theorem dX5_section_56 : decode cX5_section 56 = .ok (.aload_n 0, 1) := by decide +kernel
theorem dX5_section_57 : decode cX5_section 57 = .ok (.getfield 10, 3) := by decide +kernel
theorem dX5_section_60 : decode cX5_section 60 = .ok (.getfield 103, 3) := by decide +kernel
theorem dX5_section_63 : decode cX5_section 63 = .ok (.iload_n 1, 1) := by decide +kernel
theorem dX5_section_64 : decode cX5_section 64 = .ok (.iaload, 1) := by decide +kernel
theorem dX5_section_65 : decode cX5_section 65 = .ok (.ireturn, 1) := by decide +kernel
theorem dX5_section_66 : decode cX5_section 66 = .ok (.aload_n 0, 1) := by decide +kernel
theorem dX5_section_67 : decode cX5_section 67 = .ok (.getfield 10, 3) := by decide +kernel
theorem dX5_section_70 : decode cX5_section 70 = .ok (.getfield 106, 3) := by decide +kernel
theorem dX5_section_73 : decode cX5_section 73 = .ok (.iload_n 1, 1) := by decide +kernel
theorem dX5_section_74 : decode cX5_section 74 = .ok (.iaload, 1) := by decide +kernel
theorem dX5_section_75 : decode cX5_section 75 = .ok (.sipush 1000, 3) := by decide +kernel
theorem dX5_section_78 : decode cX5_section 78 = .ok (.iadd, 1) := by decide +kernel
theorem dX5_section_79 : decode cX5_section 79 = .ok (.ireturn, 1) := by decide +kernel
theorem dX5_section_80 : decode cX5_section 80 = .ok (.aload_n 0, 1) := by decide +kernel
theorem dX5_section_81 : decode cX5_section 81 = .ok (.getfield 10, 3) := by decide +kernel
theorem dX5_section_84 : decode cX5_section 84 = .ok (.getfield 109, 3) := by decide +kernel
theorem dX5_section_87 : decode cX5_section 87 = .ok (.iload_n 1, 1) := by decide +kernel
theorem dX5_section_88 : decode cX5_section 88 = .ok (.iaload, 1) := by decide +kernel
theorem dX5_section_89 : decode cX5_section 89 = .ok (.ireturn, 1) := by decide +kernel
theorem dX5_section_90 : decode cX5_section 90 = .ok (.aload_n 0, 1) := by decide +kernel
theorem dX5_section_91 : decode cX5_section 91 = .ok (.getfield 10, 3) := by decide +kernel
theorem dX5_section_94 : decode cX5_section 94 = .ok (.iload_n 1, 1) := by decide +kernel
theorem dX5_section_95 : decode cX5_section 95 = .ok (.invokevirtual 112, 3) := by decide +kernel
theorem dX5_section_98 : decode cX5_section 98 = .ok (.ifCond .eq 7, 3) := by decide +kernel
theorem dX5_section_101 : decode cX5_section 101 = .ok (.iconst 1, 1) := by decide +kernel
theorem dX5_section_102 : decode cX5_section 102 = .ok (.goto 4, 3) := by decide +kernel
theorem dX5_section_105 : decode cX5_section 105 = .ok (.iconst 0, 1) := by decide +kernel
theorem dX5_section_106 : decode cX5_section 106 = .ok (.ireturn, 1) := by decide +kernel
theorem dX5_section_107 : decode cX5_section 107 = .ok (.aload_n 0, 1) := by decide +kernel
theorem dX5_section_108 : decode cX5_section 108 = .ok (.getfield 10, 3) := by decide +kernel
theorem dX5_section_111 : decode cX5_section 111 = .ok (.getfield 103, 3) := by decide +kernel
theorem dX5_section_114 : decode cX5_section 114 = .ok (.iload_n 1, 1) := by decide +kernel
theorem dX5_section_115 : decode cX5_section 115 = .ok (.iaload, 1) := by decide +kernel
theorem dX5_section_116 : decode cX5_section 116 = .ok (.iconst 3, 1) := by decide +kernel
theorem dX5_section_117 : decode cX5_section 117 = .ok (.if_icmp .ne 15, 3) := by decide +kernel
theorem dX5_section_120 : decode cX5_section 120 = .ok (.aload_n 0, 1) := by decide +kernel
theorem dX5_section_121 : decode cX5_section 121 = .ok (.getfield 10, 3) := by decide +kernel
theorem dX5_section_124 : decode cX5_section 124 = .ok (.getfield 115, 3) := by decide +kernel
theorem dX5_section_127 : decode cX5_section 127 = .ok (.iload_n 1, 1) := by decide +kernel
theorem dX5_section_128 : decode cX5_section 128 = .ok (.iaload, 1) := by decide +kernel
theorem dX5_section_129 : decode cX5_section 129 = .ok (.goto 4, 3) := by decide +kernel
theorem dX5_section_132 : decode cX5_section 132 = .ok (.iconst 0, 1) := by decide +kernel
theorem dX5_section_133 : decode cX5_section 133 = .ok (.ireturn, 1) := by decide +kernel
theorem dX5_section_134 : decode cX5_section 134 = .ok (.aload_n 0, 1) := by decide +kernel
theorem dX5_section_135 : decode cX5_section 135 = .ok (.getfield 10, 3) := by decide +kernel
theorem dX5_section_138 : decode cX5_section 138 = .ok (.iload_n 1, 1) := by decide +kernel
theorem dX5_section_139 : decode cX5_section 139 = .ok (.invokevirtual 118, 3) := by decide +kernel
theorem dX5_section_142 : decode cX5_section 142 = .ok (.ireturn, 1) := by decide +kernel
theorem dX5_section_143 : decode cX5_section 143 = .ok (.aload_n 0, 1) := by decide +kernel
theorem dX5_section_144 : decode cX5_section 144 = .ok (.getfield 10, 3) := by decide +kernel
theorem dX5_section_147 : decode cX5_section 147 = .ok (.iload_n 1, 1) := by decide +kernel
theorem dX5_section_148 : decode cX5_section 148 = .ok (.invokevirtual 121, 3) := by decide +kernel
theorem dX5_section_151 : decode cX5_section 151 = .ok (.ireturn, 1) := by decide +kernel
theorem dX5_section_152 : decode cX5_section 152 = .ok (.ldc 97, 2) := by decide +kernel
theorem dX5_section_154 : decode cX5_section 154 = .ok (.ireturn, 1) := by decide +kernel
set_option maxRecDepth 20000 in
theorem ggX5_head_X3_hasHead : GoodIn wsX5_head wsX3_hasHead := goodIn_r _ [16, 17, 18, 19, 15, 20, 21, 22, 62, 63, 64, 65, 66, 67, 68, 69, 70, 71, 72, 73, 74, 75, 76] (by decide +kernel) (by decide +kernel)
set_option maxRecDepth 20000 in
theorem gX5_head_X3_hasHead : GoodIn wsX5_head (wsV RX5 124 RX3 yX3_hasHead wsX3_hasHead) := goodIn_app (goodIn_of _ (by decide +kernel)) ggX5_head_X3_hasHead
set_option maxRecDepth 20000 in
theorem ggX5_head_X3_joins : GoodIn wsX5_head wsX3_joins := goodIn_r _ [26, 27, 28, 29, 15, 30, 21, 22, 31, 32, 33, 34, 35, 36, 37, 38, 62, 63, 64, 65, 66, 67, 68, 69, 70, 71, 72, 73, 74, 75, 76] (by decide +kernel) (by decide +kernel)
set_option maxRecDepth 20000 in
theorem gX5_head_X3_joins : GoodIn wsX5_head (wsV RX5 151 RX3 yX3_joins wsX3_joins) := goodIn_app (goodIn_of _ (by decide +kernel)) ggX5_head_X3_joins
set_option maxRecDepth 20000 in
theorem ggX5_head_X3_joint : GoodIn wsX5_head wsX3_joint := goodIn_r _ [42, 43, 27, 28, 29, 15, 30, 21, 22, 31, 32, 33, 34, 35, 36, 37, 38, 62, 63, 64, 65, 66, 67, 68, 69, 70, 71, 72, 73, 74, 75, 76] (by decide +kernel) (by decide +kernel)
set_option maxRecDepth 20000 in
theorem gX5_head_X3_joint : GoodIn wsX5_head (wsV RX5 154 RX3 yX3_joint wsX3_joint) := goodIn_app (goodIn_of _ (by decide +kernel)) ggX5_head_X3_joint
set_option maxRecDepth 20000 in
theorem ggX5_head_X3_miscount : GoodIn wsX5_head wsX3_miscount := goodIn_r _ [47, 48, 49, 50, 15, 51, 22, 43, 31, 32, 33, 34, 27, 28, 29, 30, 21, 62, 63, 64, 65, 66, 67, 68, 69, 70, 71, 72, 73, 74, 75, 76] (by decide +kernel) (by decide +kernel)
set_option maxRecDepth 20000 in
theorem gX5_head_X3_miscount : GoodIn wsX5_head (wsV RX5 157 RX3 yX3_miscount wsX3_miscount) := goodIn_app (goodIn_of _ (by decide +kernel)) ggX5_head_X3_miscount
set_option maxRecDepth 20000 in
theorem ggX5_head_X5_miscountTold : GoodIn wsX5_head wsX5_miscountTold := goodIn_r _ [55] (by decide +kernel) (by decide +kernel)
set_option maxRecDepth 20000 in
theorem gX5_head_X5_miscountTold : GoodIn wsX5_head (va_wsS RX5 160 yX5_miscountTold wsX5_miscountTold) := goodIn_app (goodIn_of _ (by decide +kernel)) ggX5_head_X5_miscountTold
theorem dX5_head_0 : decode cX5_head 0 = .ok (.aload_n 0, 1) := by decide +kernel
theorem dX5_head_1 : decode cX5_head 1 = .ok (.getfield 10, 3) := by decide +kernel
theorem dX5_head_4 : decode cX5_head 4 = .ok (.iload_n 1, 1) := by decide +kernel
theorem dX5_head_5 : decode cX5_head 5 = .ok (.invokevirtual 124, 3) := by decide +kernel
theorem dX5_head_8 : decode cX5_head 8 = .ok (.ifCond .ne 6, 3) := by decide +kernel
theorem dX5_head_11 : decode cX5_head 11 = .ok (.ldc 102, 2) := by decide +kernel
theorem dX5_head_13 : decode cX5_head 13 = .ok (.ireturn, 1) := by decide +kernel
theorem dX5_head_14 : decode cX5_head 14 = .ok (.iload_n 2, 1) := by decide +kernel
theorem dX5_head_15 : decode cX5_head 15 = .ok (.tableswitch 179 0 9 #[53, 63, 75, 89, 99, 109, 119, 129, 139, 167], 53) := by decide +kernel
theorem dX5_head_68 : decode cX5_head 68 = .ok (.aload_n 0, 1) := by decide +kernel
theorem dX5_head_69 : decode cX5_head 69 = .ok (.getfield 10, 3) := by decide +kernel
theorem dX5_head_72 : decode cX5_head 72 = .ok (.getfield 127, 3) := by decide +kernel
theorem dX5_head_75 : decode cX5_head 75 = .ok (.iload_n 1, 1) := by decide +kernel
theorem dX5_head_76 : decode cX5_head 76 = .ok (.iaload, 1) := by decide +kernel
theorem dX5_head_77 : decode cX5_head 77 = .ok (.ireturn, 1) := by decide +kernel
theorem dX5_head_78 : decode cX5_head 78 = .ok (.aload_n 0, 1) := by decide +kernel
theorem dX5_head_79 : decode cX5_head 79 = .ok (.getfield 10, 3) := by decide +kernel
theorem dX5_head_82 : decode cX5_head 82 = .ok (.getfield 130, 3) := by decide +kernel
theorem dX5_head_85 : decode cX5_head 85 = .ok (.iload_n 1, 1) := by decide +kernel
theorem dX5_head_86 : decode cX5_head 86 = .ok (.iaload, 1) := by decide +kernel
theorem dX5_head_87 : decode cX5_head 87 = .ok (.iconst 4, 1) := by decide +kernel
theorem dX5_head_88 : decode cX5_head 88 = .ok (.iadd, 1) := by decide +kernel
theorem dX5_head_89 : decode cX5_head 89 = .ok (.ireturn, 1) := by decide +kernel
theorem dX5_head_90 : decode cX5_head 90 = .ok (.aload_n 0, 1) := by decide +kernel
theorem dX5_head_91 : decode cX5_head 91 = .ok (.getfield 10, 3) := by decide +kernel
theorem dX5_head_94 : decode cX5_head 94 = .ok (.getfield 133, 3) := by decide +kernel
theorem dX5_head_97 : decode cX5_head 97 = .ok (.iload_n 1, 1) := by decide +kernel
theorem dX5_head_98 : decode cX5_head 98 = .ok (.iaload, 1) := by decide +kernel
theorem dX5_head_99 : decode cX5_head 99 = .ok (.sipush 10000, 3) := by decide +kernel
theorem dX5_head_102 : decode cX5_head 102 = .ok (.iadd, 1) := by decide +kernel
theorem dX5_head_103 : decode cX5_head 103 = .ok (.ireturn, 1) := by decide +kernel
theorem dX5_head_104 : decode cX5_head 104 = .ok (.aload_n 0, 1) := by decide +kernel
theorem dX5_head_105 : decode cX5_head 105 = .ok (.getfield 10, 3) := by decide +kernel
theorem dX5_head_108 : decode cX5_head 108 = .ok (.getfield 136, 3) := by decide +kernel
theorem dX5_head_111 : decode cX5_head 111 = .ok (.iload_n 1, 1) := by decide +kernel
theorem dX5_head_112 : decode cX5_head 112 = .ok (.iaload, 1) := by decide +kernel
theorem dX5_head_113 : decode cX5_head 113 = .ok (.ireturn, 1) := by decide +kernel
theorem dX5_head_114 : decode cX5_head 114 = .ok (.aload_n 0, 1) := by decide +kernel
theorem dX5_head_115 : decode cX5_head 115 = .ok (.getfield 10, 3) := by decide +kernel
theorem dX5_head_118 : decode cX5_head 118 = .ok (.getfield 139, 3) := by decide +kernel
theorem dX5_head_121 : decode cX5_head 121 = .ok (.iload_n 1, 1) := by decide +kernel
theorem dX5_head_122 : decode cX5_head 122 = .ok (.iaload, 1) := by decide +kernel
theorem dX5_head_123 : decode cX5_head 123 = .ok (.ireturn, 1) := by decide +kernel
theorem dX5_head_124 : decode cX5_head 124 = .ok (.aload_n 0, 1) := by decide +kernel
theorem dX5_head_125 : decode cX5_head 125 = .ok (.getfield 10, 3) := by decide +kernel
theorem dX5_head_128 : decode cX5_head 128 = .ok (.getfield 142, 3) := by decide +kernel
theorem dX5_head_131 : decode cX5_head 131 = .ok (.iload_n 1, 1) := by decide +kernel
theorem dX5_head_132 : decode cX5_head 132 = .ok (.iaload, 1) := by decide +kernel
theorem dX5_head_133 : decode cX5_head 133 = .ok (.ireturn, 1) := by decide +kernel
theorem dX5_head_134 : decode cX5_head 134 = .ok (.aload_n 0, 1) := by decide +kernel
theorem dX5_head_135 : decode cX5_head 135 = .ok (.getfield 10, 3) := by decide +kernel
theorem dX5_head_138 : decode cX5_head 138 = .ok (.getfield 145, 3) := by decide +kernel
theorem dX5_head_141 : decode cX5_head 141 = .ok (.iload_n 1, 1) := by decide +kernel
theorem dX5_head_142 : decode cX5_head 142 = .ok (.iaload, 1) := by decide +kernel
theorem dX5_head_143 : decode cX5_head 143 = .ok (.ireturn, 1) := by decide +kernel
theorem dX5_head_144 : decode cX5_head 144 = .ok (.aload_n 0, 1) := by decide +kernel
theorem dX5_head_145 : decode cX5_head 145 = .ok (.getfield 10, 3) := by decide +kernel
theorem dX5_head_148 : decode cX5_head 148 = .ok (.getfield 148, 3) := by decide +kernel
theorem dX5_head_151 : decode cX5_head 151 = .ok (.iload_n 1, 1) := by decide +kernel
theorem dX5_head_152 : decode cX5_head 152 = .ok (.iaload, 1) := by decide +kernel
theorem dX5_head_153 : decode cX5_head 153 = .ok (.ireturn, 1) := by decide +kernel
theorem dX5_head_154 : decode cX5_head 154 = .ok (.aload_n 0, 1) := by decide +kernel
theorem dX5_head_155 : decode cX5_head 155 = .ok (.getfield 10, 3) := by decide +kernel
theorem dX5_head_158 : decode cX5_head 158 = .ok (.iload_n 1, 1) := by decide +kernel
theorem dX5_head_159 : decode cX5_head 159 = .ok (.invokevirtual 151, 3) := by decide +kernel
theorem dX5_head_162 : decode cX5_head 162 = .ok (.ifCond .eq 18, 3) := by decide +kernel
theorem dX5_head_165 : decode cX5_head 165 = .ok (.aload_n 0, 1) := by decide +kernel
theorem dX5_head_166 : decode cX5_head 166 = .ok (.getfield 10, 3) := by decide +kernel
theorem dX5_head_169 : decode cX5_head 169 = .ok (.iload_n 1, 1) := by decide +kernel
theorem dX5_head_170 : decode cX5_head 170 = .ok (.invokevirtual 154, 3) := by decide +kernel
theorem dX5_head_173 : decode cX5_head 173 = .ok (.sipush 2000, 3) := by decide +kernel
theorem dX5_head_176 : decode cX5_head 176 = .ok (.iadd, 1) := by decide +kernel
theorem dX5_head_177 : decode cX5_head 177 = .ok (.goto 4, 3) := by decide +kernel
theorem dX5_head_180 : decode cX5_head 180 = .ok (.iconst (-1), 1) := by decide +kernel
theorem dX5_head_181 : decode cX5_head 181 = .ok (.ireturn, 1) := by decide +kernel
theorem dX5_head_182 : decode cX5_head 182 = .ok (.aload_n 0, 1) := by decide +kernel
theorem dX5_head_183 : decode cX5_head 183 = .ok (.getfield 10, 3) := by decide +kernel
theorem dX5_head_186 : decode cX5_head 186 = .ok (.iload_n 1, 1) := by decide +kernel
theorem dX5_head_187 : decode cX5_head 187 = .ok (.invokevirtual 157, 3) := by decide +kernel
theorem dX5_head_190 : decode cX5_head 190 = .ok (.invokestatic 160, 3) := by decide +kernel
theorem dX5_head_193 : decode cX5_head 193 = .ok (.ireturn, 1) := by decide +kernel
theorem dX5_head_194 : decode cX5_head 194 = .ok (.ldc 97, 2) := by decide +kernel
theorem dX5_head_196 : decode cX5_head 196 = .ok (.ireturn, 1) := by decide +kernel
theorem dX5_miscountTold_0 : decode cX5_miscountTold 0 = .ok (.iload_n 0, 1) := by decide +kernel
theorem dX5_miscountTold_1 : decode cX5_miscountTold 1 = .ok (.ifCond .ne 7, 3) := by decide +kernel
theorem dX5_miscountTold_4 : decode cX5_miscountTold 4 = .ok (.iconst (-1), 1) := by decide +kernel
theorem dX5_miscountTold_5 : decode cX5_miscountTold 5 = .ok (.goto 7, 3) := by decide +kernel
theorem dX5_miscountTold_8 : decode cX5_miscountTold 8 = .ok (.iload_n 0, 1) := by decide +kernel
theorem dX5_miscountTold_9 : decode cX5_miscountTold 9 = .ok (.bipush 10, 2) := by decide +kernel
theorem dX5_miscountTold_11 : decode cX5_miscountTold 11 = .ok (.iadd, 1) := by decide +kernel
theorem dX5_miscountTold_12 : decode cX5_miscountTold 12 = .ok (.ireturn, 1) := by decide +kernel
set_option maxRecDepth 20000 in
theorem ggX5_line_X4_add : GoodIn wsX5_line wsX4_add := goodIn_r _ [10, 11, 12, 13, 14, 15, 16, 17, 18, 19, 20, 21, 22, 23, 24, 25, 26, 27, 28, 29, 30, 31, 32, 33, 34, 35, 36, 37, 38, 39, 40, 62, 63, 64, 65, 66, 67, 68, 69, 70, 71, 72, 73, 74, 75, 76, 77, 78, 79] (by decide +kernel) (by decide +kernel)
set_option maxRecDepth 20000 in
theorem gX5_line_X4_add : GoodIn wsX5_line (wsV RX5 163 RX4 yX4_add wsX4_add) := goodIn_app (goodIn_of _ (by decide +kernel)) ggX5_line_X4_add
set_option maxRecDepth 20000 in
theorem ggX5_line_X3_begin : GoodIn wsX5_line wsX3_begin := goodIn_r _ [44, 19, 20, 21, 22, 23, 24, 25, 26, 27, 28, 29, 30, 31, 32, 33, 45, 46, 47, 48, 65, 66, 67, 68, 69, 70, 71, 72, 73, 74, 75, 76, 77, 78, 79] (by decide +kernel) (by decide +kernel)
set_option maxRecDepth 20000 in
theorem gX5_line_X3_begin : GoodIn wsX5_line (wsV RX5 48 RX3 yX3_begin wsX3_begin) := goodIn_app (goodIn_of _ (by decide +kernel)) ggX5_line_X3_begin
set_option maxRecDepth 20000 in
theorem ggX5_line_X3_heads : GoodIn wsX5_line wsX3_heads := goodIn_r _ [52, 20, 19, 65, 66, 67, 68, 69, 70, 71, 72, 73, 74, 75, 76, 77, 78, 79] (by decide +kernel) (by decide +kernel)
set_option maxRecDepth 20000 in
theorem gX5_line_X3_heads : GoodIn wsX5_line (wsV RX5 56 RX3 yX3_heads wsX3_heads) := goodIn_app (goodIn_of _ (by decide +kernel)) ggX5_line_X3_heads
theorem dX5_line_0 : decode cX5_line 0 = .ok (.iload_n 1, 1) := by decide +kernel
theorem dX5_line_1 : decode cX5_line 1 = .ok (.iload_n 2, 1) := by decide +kernel
theorem dX5_line_2 : decode cX5_line 2 = .ok (.ifCond .eq 7, 3) := by decide +kernel
theorem dX5_line_5 : decode cX5_line 5 = .ok (.iconst 2, 1) := by decide +kernel
theorem dX5_line_6 : decode cX5_line 6 = .ok (.goto 4, 3) := by decide +kernel
theorem dX5_line_9 : decode cX5_line 9 = .ok (.iconst 1, 1) := by decide +kernel
theorem dX5_line_10 : decode cX5_line 10 = .ok (.if_icmp .lt 9, 3) := by decide +kernel
theorem dX5_line_13 : decode cX5_line 13 = .ok (.iload_n 1, 1) := by decide +kernel
theorem dX5_line_14 : decode cX5_line 14 = .ok (.bipush 6, 2) := by decide +kernel
theorem dX5_line_16 : decode cX5_line 16 = .ok (.if_icmp .le 6, 3) := by decide +kernel
theorem dX5_line_19 : decode cX5_line 19 = .ok (.ldc 97, 2) := by decide +kernel
theorem dX5_line_21 : decode cX5_line 21 = .ok (.ireturn, 1) := by decide +kernel
theorem dX5_line_22 : decode cX5_line 22 = .ok (.aload_n 0, 1) := by decide +kernel
theorem dX5_line_23 : decode cX5_line 23 = .ok (.getfield 19, 3) := by decide +kernel
theorem dX5_line_26 : decode cX5_line 26 = .ok (.aload_n 0, 1) := by decide +kernel
theorem dX5_line_27 : decode cX5_line 27 = .ok (.getfield 10, 3) := by decide +kernel
theorem dX5_line_30 : decode cX5_line 30 = .ok (.invokevirtual 163, 3) := by decide +kernel
theorem dX5_line_33 : decode cX5_line 33 = .ok (.aload_n 0, 1) := by decide +kernel
theorem dX5_line_34 : decode cX5_line 34 = .ok (.getfield 10, 3) := by decide +kernel
theorem dX5_line_37 : decode cX5_line 37 = .ok (.iload_n 1, 1) := by decide +kernel
theorem dX5_line_38 : decode cX5_line 38 = .ok (.iload_n 2, 1) := by decide +kernel
theorem dX5_line_39 : decode cX5_line 39 = .ok (.invokevirtual 48, 3) := by decide +kernel
theorem dX5_line_42 : decode cX5_line 42 = .ok (.aload_n 0, 1) := by decide +kernel
theorem dX5_line_43 : decode cX5_line 43 = .ok (.getfield 26, 3) := by decide +kernel
theorem dX5_line_46 : decode cX5_line 46 = .ok (.iconst 0, 1) := by decide +kernel
theorem dX5_line_47 : decode cX5_line 47 = .ok (.putfield 89, 3) := by decide +kernel
theorem dX5_line_50 : decode cX5_line 50 = .ok (.aload_n 0, 1) := by decide +kernel
theorem dX5_line_51 : decode cX5_line 51 = .ok (.getfield 10, 3) := by decide +kernel
theorem dX5_line_54 : decode cX5_line 54 = .ok (.invokevirtual 56, 3) := by decide +kernel
theorem dX5_line_57 : decode cX5_line 57 = .ok (.ireturn, 1) := by decide +kernel
set_option maxRecDepth 20000 in
theorem ggX5_feel_X3_hasHead : GoodIn wsX5_feel wsX3_hasHead := goodIn_r _ [12, 13, 14, 15, 11, 16, 17, 18, 66, 67, 68, 69, 70, 71, 72, 73, 74, 75, 76, 77, 78, 79, 80] (by decide +kernel) (by decide +kernel)
set_option maxRecDepth 20000 in
theorem gX5_feel_X3_hasHead : GoodIn wsX5_feel (wsV RX5 124 RX3 yX3_hasHead wsX3_hasHead) := goodIn_app (goodIn_of _ (by decide +kernel)) ggX5_feel_X3_hasHead
set_option maxRecDepth 20000 in
theorem ggX5_feel_X4_add : GoodIn wsX5_feel wsX4_add := goodIn_r _ [23, 24, 25, 26, 27, 28, 29, 11, 30, 18, 17, 31, 32, 33, 34, 35, 36, 37, 38, 39, 40, 41, 42, 43, 44, 45, 46, 47, 48, 49, 50, 81, 82, 83, 66, 67, 68, 69, 70, 71, 72, 73, 74, 75, 76, 77, 78, 79, 80] (by decide +kernel) (by decide +kernel)
set_option maxRecDepth 20000 in
theorem gX5_feel_X4_add : GoodIn wsX5_feel (wsV RX5 163 RX4 yX4_add wsX4_add) := goodIn_app (goodIn_of _ (by decide +kernel)) ggX5_feel_X4_add
set_option maxRecDepth 20000 in
theorem ggX5_feel_X3_stepTo : GoodIn wsX5_feel wsX3_stepTo := goodIn_r _ [54, 55, 32, 35, 33, 56, 57, 58, 11, 59, 34, 66, 67, 68, 69, 70, 71, 72, 73, 74, 75, 76, 77, 78, 79, 80] (by decide +kernel) (by decide +kernel)
set_option maxRecDepth 20000 in
theorem gX5_feel_X3_stepTo : GoodIn wsX5_feel (wsV RX5 168 RX3 yX3_stepTo wsX3_stepTo) := goodIn_app (goodIn_of _ (by decide +kernel)) ggX5_feel_X3_stepTo
theorem dX5_feel_0 : decode cX5_feel 0 = .ok (.aload_n 0, 1) := by decide +kernel
theorem dX5_feel_1 : decode cX5_feel 1 = .ok (.getfield 10, 3) := by decide +kernel
theorem dX5_feel_4 : decode cX5_feel 4 = .ok (.iload_n 1, 1) := by decide +kernel
theorem dX5_feel_5 : decode cX5_feel 5 = .ok (.invokevirtual 124, 3) := by decide +kernel
theorem dX5_feel_8 : decode cX5_feel 8 = .ok (.ifCond .ne 6, 3) := by decide +kernel
theorem dX5_feel_11 : decode cX5_feel 11 = .ok (.ldc 102, 2) := by decide +kernel
theorem dX5_feel_13 : decode cX5_feel 13 = .ok (.ireturn, 1) := by decide +kernel
theorem dX5_feel_14 : decode cX5_feel 14 = .ok (.iload_n 2, 1) := by decide +kernel
theorem dX5_feel_15 : decode cX5_feel 15 = .ok (.ifCond .lt 8, 3) := by decide +kernel
theorem dX5_feel_18 : decode cX5_feel 18 = .ok (.iload_n 2, 1) := by decide +kernel
theorem dX5_feel_19 : decode cX5_feel 19 = .ok (.iconst 3, 1) := by decide +kernel
theorem dX5_feel_20 : decode cX5_feel 20 = .ok (.if_icmp .le 6, 3) := by decide +kernel
theorem dX5_feel_23 : decode cX5_feel 23 = .ok (.ldc 97, 2) := by decide +kernel
theorem dX5_feel_25 : decode cX5_feel 25 = .ok (.ireturn, 1) := by decide +kernel
theorem dX5_feel_26 : decode cX5_feel 26 = .ok (.aload_n 0, 1) := by decide +kernel
theorem dX5_feel_27 : decode cX5_feel 27 = .ok (.getfield 10, 3) := by decide +kernel
theorem dX5_feel_30 : decode cX5_feel 30 = .ok (.getfield 142, 3) := by decide +kernel
theorem dX5_feel_33 : decode cX5_feel 33 = .ok (.iload_n 1, 1) := by decide +kernel
theorem dX5_feel_34 : decode cX5_feel 34 = .ok (.iaload, 1) := by decide +kernel
theorem dX5_feel_35 : decode cX5_feel 35 = .ok (.iconst 1, 1) := by decide +kernel
theorem dX5_feel_36 : decode cX5_feel 36 = .ok (.if_icmp .eq 16, 3) := by decide +kernel
theorem dX5_feel_39 : decode cX5_feel 39 = .ok (.aload_n 0, 1) := by decide +kernel
theorem dX5_feel_40 : decode cX5_feel 40 = .ok (.getfield 10, 3) := by decide +kernel
theorem dX5_feel_43 : decode cX5_feel 43 = .ok (.getfield 127, 3) := by decide +kernel
theorem dX5_feel_46 : decode cX5_feel 46 = .ok (.iload_n 1, 1) := by decide +kernel
theorem dX5_feel_47 : decode cX5_feel 47 = .ok (.iaload, 1) := by decide +kernel
theorem dX5_feel_48 : decode cX5_feel 48 = .ok (.iload_n 2, 1) := by decide +kernel
theorem dX5_feel_49 : decode cX5_feel 49 = .ok (.if_icmp .ne 6, 3) := by decide +kernel
theorem dX5_feel_52 : decode cX5_feel 52 = .ok (.ldc 167, 2) := by decide +kernel
theorem dX5_feel_54 : decode cX5_feel 54 = .ok (.ireturn, 1) := by decide +kernel
theorem dX5_feel_55 : decode cX5_feel 55 = .ok (.aload_n 0, 1) := by decide +kernel
theorem dX5_feel_56 : decode cX5_feel 56 = .ok (.getfield 19, 3) := by decide +kernel
theorem dX5_feel_59 : decode cX5_feel 59 = .ok (.aload_n 0, 1) := by decide +kernel
theorem dX5_feel_60 : decode cX5_feel 60 = .ok (.getfield 10, 3) := by decide +kernel
theorem dX5_feel_63 : decode cX5_feel 63 = .ok (.invokevirtual 163, 3) := by decide +kernel
theorem dX5_feel_66 : decode cX5_feel 66 = .ok (.aload_n 0, 1) := by decide +kernel
theorem dX5_feel_67 : decode cX5_feel 67 = .ok (.getfield 10, 3) := by decide +kernel
theorem dX5_feel_70 : decode cX5_feel 70 = .ok (.iload_n 1, 1) := by decide +kernel
theorem dX5_feel_71 : decode cX5_feel 71 = .ok (.iload_n 2, 1) := by decide +kernel
theorem dX5_feel_72 : decode cX5_feel 72 = .ok (.invokevirtual 168, 3) := by decide +kernel
theorem dX5_feel_75 : decode cX5_feel 75 = .ok (.ireturn, 1) := by decide +kernel
set_option maxRecDepth 20000 in
theorem ggX5_go_X5_refusalToMove : GoodIn wsX5_go wsX5_refusalToMove := goodIn_r _ [8, 1, 9, 10, 2, 11, 12, 13, 14, 15, 16, 17, 18, 19, 20, 21, 22, 23, 24, 25, 26, 27, 28, 29, 30, 31, 32, 33, 34, 35, 36, 37, 38, 39, 40, 41, 42, 82, 83, 84, 85, 86, 87, 88, 89, 90, 91, 92, 93, 94, 95, 96, 97, 98, 99, 100, 101, 102] (by decide +kernel) (by decide +kernel)
set_option maxRecDepth 20000 in
theorem gX5_go_X5_refusalToMove : GoodIn wsX5_go (wsV RX5 172 RX5 yX5_refusalToMove wsX5_refusalToMove) := goodIn_app (goodIn_of _ (by decide +kernel)) ggX5_go_X5_refusalToMove
set_option maxRecDepth 20000 in
theorem ggX5_go_X3_feelsAll : GoodIn wsX5_go wsX3_feelsAll := goodIn_r _ [46, 47, 48, 88, 89, 90, 91, 92, 93, 94, 95, 96, 97, 98, 99, 100, 101, 102] (by decide +kernel) (by decide +kernel)
set_option maxRecDepth 20000 in
theorem gX5_go_X3_feelsAll : GoodIn wsX5_go (wsV RX5 176 RX3 yX3_feelsAll wsX3_feelsAll) := goodIn_app (goodIn_of _ (by decide +kernel)) ggX5_go_X3_feelsAll
set_option maxRecDepth 20000 in
theorem ggX5_go_X4_add : GoodIn wsX5_go wsX4_add := goodIn_r _ [53, 54, 55, 56, 57, 58, 59, 14, 60, 21, 20, 61, 48, 62, 63, 47, 64, 65, 66, 67, 68, 69, 70, 26, 71, 72, 73, 74, 75, 76, 77, 103, 104, 105, 88, 89, 90, 91, 92, 93, 94, 95, 96, 97, 98, 99, 100, 101, 102] (by decide +kernel) (by decide +kernel)
set_option maxRecDepth 20000 in
theorem gX5_go_X4_add : GoodIn wsX5_go (wsV RX5 163 RX4 yX4_add wsX4_add) := goodIn_app (goodIn_of _ (by decide +kernel)) ggX5_go_X4_add
set_option maxRecDepth 20000 in
theorem ggX5_go_X3_carry : GoodIn wsX5_go wsX3_carry := goodIn_r _ [81, 63, 26, 27, 28, 29, 14, 30, 31, 32, 33, 34, 20, 21, 35, 36, 37, 38, 39, 40, 41, 42, 88, 89, 90, 91, 92, 93, 94, 95, 96, 97, 98, 99, 100, 101, 102] (by decide +kernel) (by decide +kernel)
set_option maxRecDepth 20000 in
theorem gX5_go_X3_carry : GoodIn wsX5_go (wsV RX5 179 RX3 yX3_carry wsX3_carry) := goodIn_app (goodIn_of _ (by decide +kernel)) ggX5_go_X3_carry
theorem dX5_go_0 : decode cX5_go 0 = .ok (.aload_n 0, 1) := by decide +kernel
theorem dX5_go_1 : decode cX5_go 1 = .ok (.iload_n 1, 1) := by decide +kernel
theorem dX5_go_2 : decode cX5_go 2 = .ok (.iload_n 2, 1) := by decide +kernel
theorem dX5_go_3 : decode cX5_go 3 = .ok (.iload_n 3, 1) := by decide +kernel
theorem dX5_go_4 : decode cX5_go 4 = .ok (.invokevirtual 172, 3) := by decide +kernel
theorem dX5_go_7 : decode cX5_go 7 = .ok (.istore 4, 2) := by decide +kernel
theorem dX5_go_9 : decode cX5_go 9 = .ok (.iload 4, 2) := by decide +kernel
theorem dX5_go_11 : decode cX5_go 11 = .ok (.ifCond .eq 6, 3) := by decide +kernel
theorem dX5_go_14 : decode cX5_go 14 = .ok (.iload 4, 2) := by decide +kernel
theorem dX5_go_16 : decode cX5_go 16 = .ok (.ireturn, 1) := by decide +kernel
theorem dX5_go_17 : decode cX5_go 17 = .ok (.aload_n 0, 1) := by decide +kernel
theorem dX5_go_18 : decode cX5_go 18 = .ok (.getfield 10, 3) := by decide +kernel
theorem dX5_go_21 : decode cX5_go 21 = .ok (.iload_n 1, 1) := by decide +kernel
theorem dX5_go_22 : decode cX5_go 22 = .ok (.invokevirtual 176, 3) := by decide +kernel
theorem dX5_go_25 : decode cX5_go 25 = .ok (.ifCond .ne 6, 3) := by decide +kernel
theorem dX5_go_28 : decode cX5_go 28 = .ok (.ldc 167, 2) := by decide +kernel
theorem dX5_go_30 : decode cX5_go 30 = .ok (.ireturn, 1) := by decide +kernel
theorem dX5_go_31 : decode cX5_go 31 = .ok (.aload_n 0, 1) := by decide +kernel
theorem dX5_go_32 : decode cX5_go 32 = .ok (.getfield 19, 3) := by decide +kernel
theorem dX5_go_35 : decode cX5_go 35 = .ok (.aload_n 0, 1) := by decide +kernel
theorem dX5_go_36 : decode cX5_go 36 = .ok (.getfield 10, 3) := by decide +kernel
theorem dX5_go_39 : decode cX5_go 39 = .ok (.invokevirtual 163, 3) := by decide +kernel
theorem dX5_go_42 : decode cX5_go 42 = .ok (.aload_n 0, 1) := by decide +kernel
theorem dX5_go_43 : decode cX5_go 43 = .ok (.getfield 10, 3) := by decide +kernel
theorem dX5_go_46 : decode cX5_go 46 = .ok (.iload_n 1, 1) := by decide +kernel
theorem dX5_go_47 : decode cX5_go 47 = .ok (.iload_n 2, 1) := by decide +kernel
theorem dX5_go_48 : decode cX5_go 48 = .ok (.iload_n 3, 1) := by decide +kernel
theorem dX5_go_49 : decode cX5_go 49 = .ok (.iconst 1, 1) := by decide +kernel
theorem dX5_go_50 : decode cX5_go 50 = .ok (.invokevirtual 179, 3) := by decide +kernel
theorem dX5_go_53 : decode cX5_go 53 = .ok (.ireturn, 1) := by decide +kernel
set_option maxRecDepth 20000 in
theorem ggX5_miss_X5_refusalToMove : GoodIn wsX5_miss wsX5_refusalToMove := goodIn_r _ [7, 2, 8, 9, 10, 11, 12, 13, 14, 15, 16, 17, 18, 19, 20, 21, 22, 23, 24, 25, 26, 27, 28, 29, 30, 31, 32, 33, 34, 35, 36, 37, 38, 39, 40, 41, 42, 78, 79, 80, 81, 82, 83, 84, 85, 86, 87, 88, 89, 90, 91, 92, 93, 94, 95, 96, 97, 98] (by decide +kernel) (by decide +kernel)
set_option maxRecDepth 20000 in
theorem gX5_miss_X5_refusalToMove : GoodIn wsX5_miss (wsV RX5 172 RX5 yX5_refusalToMove wsX5_refusalToMove) := goodIn_app (goodIn_of _ (by decide +kernel)) ggX5_miss_X5_refusalToMove
set_option maxRecDepth 20000 in
theorem ggX5_miss_X4_add : GoodIn wsX5_miss wsX4_add := goodIn_r _ [47, 48, 49, 50, 51, 52, 53, 14, 54, 21, 20, 55, 56, 57, 58, 59, 60, 61, 62, 63, 64, 65, 66, 26, 67, 68, 69, 70, 71, 72, 73, 99, 100, 101, 84, 85, 86, 87, 88, 89, 90, 91, 92, 93, 94, 95, 96, 97, 98] (by decide +kernel) (by decide +kernel)
set_option maxRecDepth 20000 in
theorem gX5_miss_X4_add : GoodIn wsX5_miss (wsV RX5 163 RX4 yX4_add wsX4_add) := goodIn_app (goodIn_of _ (by decide +kernel)) ggX5_miss_X4_add
set_option maxRecDepth 20000 in
theorem ggX5_miss_X3_carry : GoodIn wsX5_miss wsX3_carry := goodIn_r _ [77, 58, 26, 27, 28, 29, 14, 30, 31, 32, 33, 34, 20, 21, 35, 36, 37, 38, 39, 40, 41, 42, 84, 85, 86, 87, 88, 89, 90, 91, 92, 93, 94, 95, 96, 97, 98] (by decide +kernel) (by decide +kernel)
set_option maxRecDepth 20000 in
theorem gX5_miss_X3_carry : GoodIn wsX5_miss (wsV RX5 179 RX3 yX3_carry wsX3_carry) := goodIn_app (goodIn_of _ (by decide +kernel)) ggX5_miss_X3_carry
theorem dX5_miss_0 : decode cX5_miss 0 = .ok (.aload_n 0, 1) := by decide +kernel
theorem dX5_miss_1 : decode cX5_miss 1 = .ok (.iload_n 1, 1) := by decide +kernel
theorem dX5_miss_2 : decode cX5_miss 2 = .ok (.iload_n 2, 1) := by decide +kernel
theorem dX5_miss_3 : decode cX5_miss 3 = .ok (.iload_n 3, 1) := by decide +kernel
theorem dX5_miss_4 : decode cX5_miss 4 = .ok (.invokevirtual 172, 3) := by decide +kernel
theorem dX5_miss_7 : decode cX5_miss 7 = .ok (.istore 4, 2) := by decide +kernel
theorem dX5_miss_9 : decode cX5_miss 9 = .ok (.iload 4, 2) := by decide +kernel
theorem dX5_miss_11 : decode cX5_miss 11 = .ok (.ifCond .eq 6, 3) := by decide +kernel
theorem dX5_miss_14 : decode cX5_miss 14 = .ok (.iload 4, 2) := by decide +kernel
theorem dX5_miss_16 : decode cX5_miss 16 = .ok (.ireturn, 1) := by decide +kernel
theorem dX5_miss_17 : decode cX5_miss 17 = .ok (.aload_n 0, 1) := by decide +kernel
theorem dX5_miss_18 : decode cX5_miss 18 = .ok (.getfield 19, 3) := by decide +kernel
theorem dX5_miss_21 : decode cX5_miss 21 = .ok (.aload_n 0, 1) := by decide +kernel
theorem dX5_miss_22 : decode cX5_miss 22 = .ok (.getfield 10, 3) := by decide +kernel
theorem dX5_miss_25 : decode cX5_miss 25 = .ok (.invokevirtual 163, 3) := by decide +kernel
theorem dX5_miss_28 : decode cX5_miss 28 = .ok (.aload_n 0, 1) := by decide +kernel
theorem dX5_miss_29 : decode cX5_miss 29 = .ok (.getfield 10, 3) := by decide +kernel
theorem dX5_miss_32 : decode cX5_miss 32 = .ok (.iload_n 1, 1) := by decide +kernel
theorem dX5_miss_33 : decode cX5_miss 33 = .ok (.iload_n 2, 1) := by decide +kernel
theorem dX5_miss_34 : decode cX5_miss 34 = .ok (.iload_n 3, 1) := by decide +kernel
theorem dX5_miss_35 : decode cX5_miss 35 = .ok (.iconst 0, 1) := by decide +kernel
theorem dX5_miss_36 : decode cX5_miss 36 = .ok (.invokevirtual 179, 3) := by decide +kernel
theorem dX5_miss_39 : decode cX5_miss 39 = .ok (.ireturn, 1) := by decide +kernel
set_option maxRecDepth 20000 in
theorem ggX5_refusalToMove_X3_hasHead : GoodIn wsX5_refusalToMove wsX3_hasHead := goodIn_r _ [9, 10, 11, 12, 8, 13, 14, 15, 43, 44, 45, 46, 47, 48, 49, 50, 51, 52, 53, 54, 55, 56, 57] (by decide +kernel) (by decide +kernel)
set_option maxRecDepth 20000 in
theorem gX5_refusalToMove_X3_hasHead : GoodIn wsX5_refusalToMove (wsV RX5 124 RX3 yX3_hasHead wsX3_hasHead) := goodIn_app (goodIn_of _ (by decide +kernel)) ggX5_refusalToMove_X3_hasHead
set_option maxRecDepth 20000 in
theorem ggX5_refusalToMove_X3_canCarry : GoodIn wsX5_refusalToMove wsX3_canCarry := goodIn_r _ [19, 20, 21, 22, 23, 8, 24, 25, 26, 27, 28, 14, 15, 29, 30, 31, 32, 33, 34, 35, 36, 43, 44, 45, 46, 47, 48, 49, 50, 51, 52, 53, 54, 55, 56, 57] (by decide +kernel) (by decide +kernel)
set_option maxRecDepth 20000 in
theorem gX5_refusalToMove_X3_canCarry : GoodIn wsX5_refusalToMove (wsV RX5 183 RX3 yX3_canCarry wsX3_canCarry) := goodIn_app (goodIn_of _ (by decide +kernel)) ggX5_refusalToMove_X3_canCarry
theorem dX5_refusalToMove_0 : decode cX5_refusalToMove 0 = .ok (.aload_n 0, 1) := by decide +kernel
theorem dX5_refusalToMove_1 : decode cX5_refusalToMove 1 = .ok (.getfield 10, 3) := by decide +kernel
theorem dX5_refusalToMove_4 : decode cX5_refusalToMove 4 = .ok (.iload_n 1, 1) := by decide +kernel
theorem dX5_refusalToMove_5 : decode cX5_refusalToMove 5 = .ok (.invokevirtual 124, 3) := by decide +kernel
theorem dX5_refusalToMove_8 : decode cX5_refusalToMove 8 = .ok (.ifCond .ne 6, 3) := by decide +kernel
theorem dX5_refusalToMove_11 : decode cX5_refusalToMove 11 = .ok (.ldc 102, 2) := by decide +kernel
theorem dX5_refusalToMove_13 : decode cX5_refusalToMove 13 = .ok (.ireturn, 1) := by decide +kernel
theorem dX5_refusalToMove_14 : decode cX5_refusalToMove 14 = .ok (.iload_n 2, 1) := by decide +kernel
theorem dX5_refusalToMove_15 : decode cX5_refusalToMove 15 = .ok (.ifCond .lt 19, 3) := by decide +kernel
theorem dX5_refusalToMove_18 : decode cX5_refusalToMove 18 = .ok (.iload_n 2, 1) := by decide +kernel
theorem dX5_refusalToMove_19 : decode cX5_refusalToMove 19 = .ok (.iconst 1, 1) := by decide +kernel
theorem dX5_refusalToMove_20 : decode cX5_refusalToMove 20 = .ok (.if_icmp .gt 14, 3) := by decide +kernel
theorem dX5_refusalToMove_23 : decode cX5_refusalToMove 23 = .ok (.iload_n 3, 1) := by decide +kernel
theorem dX5_refusalToMove_24 : decode cX5_refusalToMove 24 = .ok (.iconst 1, 1) := by decide +kernel
theorem dX5_refusalToMove_25 : decode cX5_refusalToMove 25 = .ok (.if_icmp .lt 9, 3) := by decide +kernel
theorem dX5_refusalToMove_28 : decode cX5_refusalToMove 28 = .ok (.iload_n 3, 1) := by decide +kernel
theorem dX5_refusalToMove_29 : decode cX5_refusalToMove 29 = .ok (.bipush 9, 2) := by decide +kernel
theorem dX5_refusalToMove_31 : decode cX5_refusalToMove 31 = .ok (.if_icmp .le 6, 3) := by decide +kernel
theorem dX5_refusalToMove_34 : decode cX5_refusalToMove 34 = .ok (.ldc 97, 2) := by decide +kernel
theorem dX5_refusalToMove_36 : decode cX5_refusalToMove 36 = .ok (.ireturn, 1) := by decide +kernel
theorem dX5_refusalToMove_37 : decode cX5_refusalToMove 37 = .ok (.aload_n 0, 1) := by decide +kernel
theorem dX5_refusalToMove_38 : decode cX5_refusalToMove 38 = .ok (.getfield 10, 3) := by decide +kernel
theorem dX5_refusalToMove_41 : decode cX5_refusalToMove 41 = .ok (.iload_n 1, 1) := by decide +kernel
theorem dX5_refusalToMove_42 : decode cX5_refusalToMove 42 = .ok (.iload_n 2, 1) := by decide +kernel
theorem dX5_refusalToMove_43 : decode cX5_refusalToMove 43 = .ok (.iload_n 3, 1) := by decide +kernel
theorem dX5_refusalToMove_44 : decode cX5_refusalToMove 44 = .ok (.invokevirtual 183, 3) := by decide +kernel
theorem dX5_refusalToMove_47 : decode cX5_refusalToMove 47 = .ok (.ifCond .eq 7, 3) := by decide +kernel
theorem dX5_refusalToMove_50 : decode cX5_refusalToMove 50 = .ok (.iconst 0, 1) := by decide +kernel
theorem dX5_refusalToMove_51 : decode cX5_refusalToMove 51 = .ok (.goto 5, 3) := by decide +kernel
theorem dX5_refusalToMove_54 : decode cX5_refusalToMove 54 = .ok (.ldc 167, 2) := by decide +kernel
theorem dX5_refusalToMove_56 : decode cX5_refusalToMove 56 = .ok (.ireturn, 1) := by decide +kernel
set_option maxRecDepth 20000 in
theorem ggX5_tick_X3_hasHeads : GoodIn wsX5_tick wsX3_hasHeads := goodIn_r _ [8, 9, 10, 11, 7, 12, 13, 14, 129, 130, 131, 132, 133, 134, 135, 136, 137, 138, 139, 140, 141, 142, 143] (by decide +kernel) (by decide +kernel)
set_option maxRecDepth 20000 in
theorem gX5_tick_X3_hasHeads : GoodIn wsX5_tick (wsV RX5 187 RX3 yX3_hasHeads wsX3_hasHeads) := goodIn_app (goodIn_of _ (by decide +kernel)) ggX5_tick_X3_hasHeads
set_option maxRecDepth 20000 in
theorem ggX5_tick_X4_add : GoodIn wsX5_tick wsX4_add := goodIn_r _ [19, 20, 21, 22, 23, 24, 25, 7, 26, 14, 13, 27, 28, 29, 30, 31, 32, 33, 34, 35, 36, 37, 38, 39, 40, 41, 42, 43, 44, 45, 46, 144, 145, 146, 129, 130, 131, 132, 133, 134, 135, 136, 137, 138, 139, 140, 141, 142, 143] (by decide +kernel) (by decide +kernel)
set_option maxRecDepth 20000 in
theorem gX5_tick_X4_add : GoodIn wsX5_tick (wsV RX5 163 RX4 yX4_add wsX4_add) := goodIn_app (goodIn_of _ (by decide +kernel)) ggX5_tick_X4_add
set_option maxRecDepth 20000 in
theorem ggX5_tick_X3_pass : GoodIn wsX5_tick wsX3_pass := goodIn_r _ [50, 14, 27, 51, 52, 53, 7, 54, 34, 9, 10, 11, 12, 13, 55, 56, 57, 58, 30, 32, 33, 31, 59, 60, 61, 62, 63, 64, 65, 66, 36, 67, 68, 69, 70, 71, 72, 73, 74, 75, 76, 77, 78, 37, 79, 80, 81, 82, 83, 84, 85, 86, 87, 88, 89, 90, 91, 92, 93, 94, 95, 96, 97, 98, 38, 99, 100, 101, 102, 103, 104, 105, 106, 35, 107, 108, 109, 110, 111, 112, 113, 114, 115, 116, 117, 118, 129, 130, 131, 132, 133, 134, 135, 136, 137, 138, 139, 140, 141, 142, 143] (by decide +kernel) (by decide +kernel)
set_option maxRecDepth 20000 in
theorem gX5_tick_X3_pass : GoodIn wsX5_tick (wsV RX5 190 RX3 yX3_pass wsX3_pass) := goodIn_app (goodIn_of _ (by decide +kernel)) ggX5_tick_X3_pass
set_option maxRecDepth 20000 in
theorem ggX5_tick_X3_called : GoodIn wsX5_tick wsX3_called := goodIn_r _ [122, 14, 37, 129, 130, 131, 132, 133, 134, 135, 136, 137, 138, 139, 140, 141, 142, 143] (by decide +kernel) (by decide +kernel)
set_option maxRecDepth 20000 in
theorem gX5_tick_X3_called : GoodIn wsX5_tick (wsV RX5 67 RX3 yX3_called wsX3_called) := goodIn_app (goodIn_of _ (by decide +kernel)) ggX5_tick_X3_called
theorem dX5_tick_0 : decode cX5_tick 0 = .ok (.aload_n 0, 1) := by decide +kernel
theorem dX5_tick_1 : decode cX5_tick 1 = .ok (.getfield 10, 3) := by decide +kernel
theorem dX5_tick_4 : decode cX5_tick 4 = .ok (.iload_n 1, 1) := by decide +kernel
theorem dX5_tick_5 : decode cX5_tick 5 = .ok (.invokevirtual 187, 3) := by decide +kernel
theorem dX5_tick_8 : decode cX5_tick 8 = .ok (.ifCond .ne 6, 3) := by decide +kernel
theorem dX5_tick_11 : decode cX5_tick 11 = .ok (.ldc 102, 2) := by decide +kernel
theorem dX5_tick_13 : decode cX5_tick 13 = .ok (.ireturn, 1) := by decide +kernel
theorem dX5_tick_14 : decode cX5_tick 14 = .ok (.aload_n 0, 1) := by decide +kernel
theorem dX5_tick_15 : decode cX5_tick 15 = .ok (.getfield 19, 3) := by decide +kernel
theorem dX5_tick_18 : decode cX5_tick 18 = .ok (.aload_n 0, 1) := by decide +kernel
theorem dX5_tick_19 : decode cX5_tick 19 = .ok (.getfield 10, 3) := by decide +kernel
theorem dX5_tick_22 : decode cX5_tick 22 = .ok (.invokevirtual 163, 3) := by decide +kernel
theorem dX5_tick_25 : decode cX5_tick 25 = .ok (.aload_n 0, 1) := by decide +kernel
theorem dX5_tick_26 : decode cX5_tick 26 = .ok (.getfield 10, 3) := by decide +kernel
theorem dX5_tick_29 : decode cX5_tick 29 = .ok (.iload_n 1, 1) := by decide +kernel
theorem dX5_tick_30 : decode cX5_tick 30 = .ok (.invokevirtual 190, 3) := by decide +kernel
theorem dX5_tick_33 : decode cX5_tick 33 = .ok (.aload_n 0, 1) := by decide +kernel
theorem dX5_tick_34 : decode cX5_tick 34 = .ok (.getfield 10, 3) := by decide +kernel
theorem dX5_tick_37 : decode cX5_tick 37 = .ok (.iconst 0, 1) := by decide +kernel
theorem dX5_tick_38 : decode cX5_tick 38 = .ok (.invokevirtual 67, 3) := by decide +kernel
theorem dX5_tick_41 : decode cX5_tick 41 = .ok (.ireturn, 1) := by decide +kernel
set_option maxRecDepth 20000 in
theorem ggX5_reset_X3_hasSection : GoodIn wsX5_reset wsX3_hasSection := goodIn_r _ [11, 12, 56, 57, 58, 59, 60, 61, 62, 63, 64, 65, 66, 67, 68, 69, 70] (by decide +kernel) (by decide +kernel)
set_option maxRecDepth 20000 in
theorem gX5_reset_X3_hasSection : GoodIn wsX5_reset (wsV RX5 98 RX3 yX3_hasSection wsX3_hasSection) := goodIn_app (goodIn_of _ (by decide +kernel)) ggX5_reset_X3_hasSection
set_option maxRecDepth 20000 in
theorem ggX5_reset_X4_add : GoodIn wsX5_reset wsX4_add := goodIn_r _ [17, 18, 19, 20, 21, 22, 23, 10, 24, 12, 25, 26, 27, 28, 29, 30, 31, 32, 33, 34, 35, 36, 37, 38, 39, 40, 41, 42, 43, 44, 45, 71, 72, 73, 56, 57, 58, 59, 60, 61, 62, 63, 64, 65, 66, 67, 68, 69, 70] (by decide +kernel) (by decide +kernel)
set_option maxRecDepth 20000 in
theorem gX5_reset_X4_add : GoodIn wsX5_reset (wsV RX5 163 RX4 yX4_add wsX4_add) := goodIn_app (goodIn_of _ (by decide +kernel)) ggX5_reset_X4_add
set_option maxRecDepth 20000 in
theorem ggX5_reset_X3_awaitSweep : GoodIn wsX5_reset wsX3_awaitSweep := goodIn_r _ [49, 35, 36, 37, 56, 57, 58, 59, 60, 61, 62, 63, 64, 65, 66, 67, 68, 69, 70] (by decide +kernel) (by decide +kernel)
set_option maxRecDepth 20000 in
theorem gX5_reset_X3_awaitSweep : GoodIn wsX5_reset (wsV RX5 194 RX3 yX3_awaitSweep wsX3_awaitSweep) := goodIn_app (goodIn_of _ (by decide +kernel)) ggX5_reset_X3_awaitSweep
theorem dX5_reset_0 : decode cX5_reset 0 = .ok (.aload_n 0, 1) := by decide +kernel
theorem dX5_reset_1 : decode cX5_reset 1 = .ok (.getfield 10, 3) := by decide +kernel
theorem dX5_reset_4 : decode cX5_reset 4 = .ok (.iload_n 1, 1) := by decide +kernel
theorem dX5_reset_5 : decode cX5_reset 5 = .ok (.invokevirtual 98, 3) := by decide +kernel
theorem dX5_reset_8 : decode cX5_reset 8 = .ok (.ifCond .ne 6, 3) := by decide +kernel
theorem dX5_reset_11 : decode cX5_reset 11 = .ok (.ldc 102, 2) := by decide +kernel
theorem dX5_reset_13 : decode cX5_reset 13 = .ok (.ireturn, 1) := by decide +kernel
theorem dX5_reset_14 : decode cX5_reset 14 = .ok (.aload_n 0, 1) := by decide +kernel
theorem dX5_reset_15 : decode cX5_reset 15 = .ok (.getfield 10, 3) := by decide +kernel
theorem dX5_reset_18 : decode cX5_reset 18 = .ok (.getfield 103, 3) := by decide +kernel
theorem dX5_reset_21 : decode cX5_reset 21 = .ok (.iload_n 1, 1) := by decide +kernel
theorem dX5_reset_22 : decode cX5_reset 22 = .ok (.iaload, 1) := by decide +kernel
theorem dX5_reset_23 : decode cX5_reset 23 = .ok (.iconst 2, 1) := by decide +kernel
theorem dX5_reset_24 : decode cX5_reset 24 = .ok (.if_icmp .eq 6, 3) := by decide +kernel
theorem dX5_reset_27 : decode cX5_reset 27 = .ok (.ldc 167, 2) := by decide +kernel
theorem dX5_reset_29 : decode cX5_reset 29 = .ok (.ireturn, 1) := by decide +kernel
theorem dX5_reset_30 : decode cX5_reset 30 = .ok (.aload_n 0, 1) := by decide +kernel
theorem dX5_reset_31 : decode cX5_reset 31 = .ok (.getfield 19, 3) := by decide +kernel
theorem dX5_reset_34 : decode cX5_reset 34 = .ok (.aload_n 0, 1) := by decide +kernel
theorem dX5_reset_35 : decode cX5_reset 35 = .ok (.getfield 10, 3) := by decide +kernel
theorem dX5_reset_38 : decode cX5_reset 38 = .ok (.invokevirtual 163, 3) := by decide +kernel
theorem dX5_reset_41 : decode cX5_reset 41 = .ok (.aload_n 0, 1) := by decide +kernel
theorem dX5_reset_42 : decode cX5_reset 42 = .ok (.getfield 10, 3) := by decide +kernel
theorem dX5_reset_45 : decode cX5_reset 45 = .ok (.getfield 106, 3) := by decide +kernel
theorem dX5_reset_48 : decode cX5_reset 48 = .ok (.iload_n 1, 1) := by decide +kernel
theorem dX5_reset_49 : decode cX5_reset 49 = .ok (.iaload, 1) := by decide +kernel
theorem dX5_reset_50 : decode cX5_reset 50 = .ok (.istore_n 2, 1) := by decide +kernel
theorem dX5_reset_51 : decode cX5_reset 51 = .ok (.aload_n 0, 1) := by decide +kernel
theorem dX5_reset_52 : decode cX5_reset 52 = .ok (.getfield 10, 3) := by decide +kernel
theorem dX5_reset_55 : decode cX5_reset 55 = .ok (.iload_n 1, 1) := by decide +kernel
theorem dX5_reset_56 : decode cX5_reset 56 = .ok (.invokevirtual 194, 3) := by decide +kernel
theorem dX5_reset_59 : decode cX5_reset 59 = .ok (.iload_n 2, 1) := by decide +kernel
theorem dX5_reset_60 : decode cX5_reset 60 = .ok (.sipush 1000, 3) := by decide +kernel
theorem dX5_reset_63 : decode cX5_reset 63 = .ok (.iadd, 1) := by decide +kernel
theorem dX5_reset_64 : decode cX5_reset 64 = .ok (.ireturn, 1) := by decide +kernel
set_option maxRecDepth 20000 in
theorem ggX5_repair_X3_hasHead : GoodIn wsX5_repair wsX3_hasHead := goodIn_r _ [11, 12, 13, 14, 10, 15, 16, 17, 60, 61, 62, 63, 64, 65, 66, 67, 68, 69, 70, 71, 72, 73, 74] (by decide +kernel) (by decide +kernel)
set_option maxRecDepth 20000 in
theorem gX5_repair_X3_hasHead : GoodIn wsX5_repair (wsV RX5 124 RX3 yX3_hasHead wsX3_hasHead) := goodIn_app (goodIn_of _ (by decide +kernel)) ggX5_repair_X3_hasHead
set_option maxRecDepth 20000 in
theorem ggX5_repair_X4_add : GoodIn wsX5_repair wsX4_add := goodIn_r _ [22, 23, 24, 25, 26, 27, 28, 10, 29, 17, 16, 30, 31, 32, 33, 34, 35, 36, 37, 38, 39, 40, 41, 42, 43, 44, 45, 46, 47, 48, 49, 75, 76, 77, 60, 61, 62, 63, 64, 65, 66, 67, 68, 69, 70, 71, 72, 73, 74] (by decide +kernel) (by decide +kernel)
set_option maxRecDepth 20000 in
theorem gX5_repair_X4_add : GoodIn wsX5_repair (wsV RX5 163 RX4 yX4_add wsX4_add) := goodIn_app (goodIn_of _ (by decide +kernel)) ggX5_repair_X4_add
set_option maxRecDepth 20000 in
theorem ggX5_repair_X3_mend : GoodIn wsX5_repair wsX3_mend := goodIn_r _ [53, 34, 31, 32, 60, 61, 62, 63, 64, 65, 66, 67, 68, 69, 70, 71, 72, 73, 74] (by decide +kernel) (by decide +kernel)
set_option maxRecDepth 20000 in
theorem gX5_repair_X3_mend : GoodIn wsX5_repair (wsV RX5 197 RX3 yX3_mend wsX3_mend) := goodIn_app (goodIn_of _ (by decide +kernel)) ggX5_repair_X3_mend
theorem dX5_repair_0 : decode cX5_repair 0 = .ok (.aload_n 0, 1) := by decide +kernel
theorem dX5_repair_1 : decode cX5_repair 1 = .ok (.getfield 10, 3) := by decide +kernel
theorem dX5_repair_4 : decode cX5_repair 4 = .ok (.iload_n 1, 1) := by decide +kernel
theorem dX5_repair_5 : decode cX5_repair 5 = .ok (.invokevirtual 124, 3) := by decide +kernel
theorem dX5_repair_8 : decode cX5_repair 8 = .ok (.ifCond .ne 6, 3) := by decide +kernel
theorem dX5_repair_11 : decode cX5_repair 11 = .ok (.ldc 102, 2) := by decide +kernel
theorem dX5_repair_13 : decode cX5_repair 13 = .ok (.ireturn, 1) := by decide +kernel
theorem dX5_repair_14 : decode cX5_repair 14 = .ok (.aload_n 0, 1) := by decide +kernel
theorem dX5_repair_15 : decode cX5_repair 15 = .ok (.getfield 10, 3) := by decide +kernel
theorem dX5_repair_18 : decode cX5_repair 18 = .ok (.getfield 142, 3) := by decide +kernel
theorem dX5_repair_21 : decode cX5_repair 21 = .ok (.iload_n 1, 1) := by decide +kernel
theorem dX5_repair_22 : decode cX5_repair 22 = .ok (.iaload, 1) := by decide +kernel
theorem dX5_repair_23 : decode cX5_repair 23 = .ok (.ifCond .ne 6, 3) := by decide +kernel
theorem dX5_repair_26 : decode cX5_repair 26 = .ok (.ldc 167, 2) := by decide +kernel
theorem dX5_repair_28 : decode cX5_repair 28 = .ok (.ireturn, 1) := by decide +kernel
theorem dX5_repair_29 : decode cX5_repair 29 = .ok (.aload_n 0, 1) := by decide +kernel
theorem dX5_repair_30 : decode cX5_repair 30 = .ok (.getfield 19, 3) := by decide +kernel
theorem dX5_repair_33 : decode cX5_repair 33 = .ok (.aload_n 0, 1) := by decide +kernel
theorem dX5_repair_34 : decode cX5_repair 34 = .ok (.getfield 10, 3) := by decide +kernel
theorem dX5_repair_37 : decode cX5_repair 37 = .ok (.invokevirtual 163, 3) := by decide +kernel
theorem dX5_repair_40 : decode cX5_repair 40 = .ok (.aload_n 0, 1) := by decide +kernel
theorem dX5_repair_41 : decode cX5_repair 41 = .ok (.getfield 10, 3) := by decide +kernel
theorem dX5_repair_44 : decode cX5_repair 44 = .ok (.getfield 127, 3) := by decide +kernel
theorem dX5_repair_47 : decode cX5_repair 47 = .ok (.iload_n 1, 1) := by decide +kernel
theorem dX5_repair_48 : decode cX5_repair 48 = .ok (.iaload, 1) := by decide +kernel
theorem dX5_repair_49 : decode cX5_repair 49 = .ok (.istore_n 2, 1) := by decide +kernel
theorem dX5_repair_50 : decode cX5_repair 50 = .ok (.aload_n 0, 1) := by decide +kernel
theorem dX5_repair_51 : decode cX5_repair 51 = .ok (.getfield 10, 3) := by decide +kernel
theorem dX5_repair_54 : decode cX5_repair 54 = .ok (.iload_n 1, 1) := by decide +kernel
theorem dX5_repair_55 : decode cX5_repair 55 = .ok (.invokevirtual 197, 3) := by decide +kernel
theorem dX5_repair_58 : decode cX5_repair 58 = .ok (.iload_n 2, 1) := by decide +kernel
theorem dX5_repair_59 : decode cX5_repair 59 = .ok (.ifCond .ne 7, 3) := by decide +kernel
theorem dX5_repair_62 : decode cX5_repair 62 = .ok (.iconst 1, 1) := by decide +kernel
theorem dX5_repair_63 : decode cX5_repair 63 = .ok (.goto 4, 3) := by decide +kernel
theorem dX5_repair_66 : decode cX5_repair 66 = .ok (.iconst 0, 1) := by decide +kernel
theorem dX5_repair_67 : decode cX5_repair 67 = .ok (.ireturn, 1) := by decide +kernel
set_option maxRecDepth 20000 in
theorem ggX5_drift_X4_add : GoodIn wsX5_drift wsX4_add := goodIn_r _ [8, 9, 10, 11, 12, 13, 14, 15, 16, 17, 18, 19, 20, 21, 22, 23, 24, 25, 26, 27, 28, 29, 30, 31, 32, 33, 34, 35, 36, 37, 38, 157, 158, 159, 160, 161, 162, 163, 164, 165, 166, 167, 168, 169, 170, 171, 172, 173, 174] (by decide +kernel) (by decide +kernel)
set_option maxRecDepth 20000 in
theorem gX5_drift_X4_add : GoodIn wsX5_drift (wsV RX5 163 RX4 yX4_add wsX4_add) := goodIn_app (goodIn_of _ (by decide +kernel)) ggX5_drift_X4_add
set_option maxRecDepth 20000 in
theorem ggX5_drift_X5_driftOnce : GoodIn wsX5_drift wsX5_driftOnce := goodIn_r _ [43, 44, 3, 45, 46, 47, 15, 48, 18, 17, 49, 50, 51, 52, 53, 54, 55, 56, 57, 58, 59, 60, 61, 31, 62, 63, 64, 65, 66, 67, 68, 69, 70, 71, 72, 73, 74, 75, 76, 77, 78, 79, 80, 81, 23, 20, 82, 83, 84, 85, 22, 86, 87, 88, 89, 19, 90, 91, 92, 93, 26, 94, 95, 96, 97, 98, 24, 25, 99, 100, 101, 102, 28, 103, 104, 105, 106, 29, 107, 108, 109, 110, 111, 112, 113, 114, 115, 116, 117, 118, 119, 120, 121, 122, 123, 124, 125, 126, 30, 127, 128, 129, 130, 131, 132, 133, 134, 27, 135, 136, 137, 138, 139, 140, 141, 142, 143, 144, 145, 146, 151, 152, 153, 154, 155, 156, 160, 161, 162, 163, 164, 165, 166, 167, 168, 169, 170, 171, 172, 173, 174, 175] (by decide +kernel) (by decide +kernel)
set_option maxRecDepth 20000 in
theorem gX5_drift_X5_driftOnce : GoodIn wsX5_drift (wsV RX5 200 RX5 yX5_driftOnce wsX5_driftOnce) := goodIn_app (goodIn_of _ (by decide +kernel)) ggX5_drift_X5_driftOnce
set_option maxRecDepth 20000 in
theorem ggX5_drift_X3_called : GoodIn wsX5_drift wsX3_called := goodIn_r _ [150, 17, 29, 160, 161, 162, 163, 164, 165, 166, 167, 168, 169, 170, 171, 172, 173, 174] (by decide +kernel) (by decide +kernel)
set_option maxRecDepth 20000 in
theorem gX5_drift_X3_called : GoodIn wsX5_drift (wsV RX5 67 RX3 yX3_called wsX3_called) := goodIn_app (goodIn_of _ (by decide +kernel)) ggX5_drift_X3_called
theorem dX5_drift_0 : decode cX5_drift 0 = .ok (.iload_n 1, 1) := by decide +kernel
theorem dX5_drift_1 : decode cX5_drift 1 = .ok (.iconst 1, 1) := by decide +kernel
theorem dX5_drift_2 : decode cX5_drift 2 = .ok (.if_icmp .lt 9, 3) := by decide +kernel
theorem dX5_drift_5 : decode cX5_drift 5 = .ok (.iload_n 1, 1) := by decide +kernel
theorem dX5_drift_6 : decode cX5_drift 6 = .ok (.bipush 16, 2) := by decide +kernel
theorem dX5_drift_8 : decode cX5_drift 8 = .ok (.if_icmp .le 6, 3) := by decide +kernel
theorem dX5_drift_11 : decode cX5_drift 11 = .ok (.ldc 97, 2) := by decide +kernel
theorem dX5_drift_13 : decode cX5_drift 13 = .ok (.ireturn, 1) := by decide +kernel
theorem dX5_drift_14 : decode cX5_drift 14 = .ok (.iconst 0, 1) := by decide +kernel
theorem dX5_drift_15 : decode cX5_drift 15 = .ok (.istore_n 2, 1) := by decide +kernel
theorem dX5_drift_16 : decode cX5_drift 16 = .ok (.iload_n 2, 1) := by decide +kernel
theorem dX5_drift_17 : decode cX5_drift 17 = .ok (.iload_n 1, 1) := by decide +kernel
theorem dX5_drift_18 : decode cX5_drift 18 = .ok (.if_icmp .ge 24, 3) := by decide +kernel
theorem dX5_drift_21 : decode cX5_drift 21 = .ok (.aload_n 0, 1) := by decide +kernel
theorem dX5_drift_22 : decode cX5_drift 22 = .ok (.getfield 19, 3) := by decide +kernel
theorem dX5_drift_25 : decode cX5_drift 25 = .ok (.aload_n 0, 1) := by decide +kernel
theorem dX5_drift_26 : decode cX5_drift 26 = .ok (.getfield 10, 3) := by decide +kernel
theorem dX5_drift_29 : decode cX5_drift 29 = .ok (.invokevirtual 163, 3) := by decide +kernel
theorem dX5_drift_32 : decode cX5_drift 32 = .ok (.aload_n 0, 1) := by decide +kernel
theorem dX5_drift_33 : decode cX5_drift 33 = .ok (.invokevirtual 200, 3) := by decide +kernel
theorem dX5_drift_36 : decode cX5_drift 36 = .ok (.iinc 2 1, 3) := by decide +kernel
theorem dX5_drift_39 : decode cX5_drift 39 = .ok (.goto (-23), 3) := by decide +kernel
theorem dX5_drift_42 : decode cX5_drift 42 = .ok (.aload_n 0, 1) := by decide +kernel
theorem dX5_drift_43 : decode cX5_drift 43 = .ok (.getfield 10, 3) := by decide +kernel
theorem dX5_drift_46 : decode cX5_drift 46 = .ok (.iconst 0, 1) := by decide +kernel
theorem dX5_drift_47 : decode cX5_drift 47 = .ok (.invokevirtual 67, 3) := by decide +kernel
theorem dX5_drift_50 : decode cX5_drift 50 = .ok (.ireturn, 1) := by decide +kernel
set_option maxRecDepth 20000 in
theorem ggX5_driftOnce_X3_heads : GoodIn wsX5_driftOnce wsX3_heads := goodIn_r _ [7, 8, 9, 126, 127, 128, 129, 130, 131, 132, 133, 134, 135, 136, 137, 138, 139, 140] (by decide +kernel) (by decide +kernel)
set_option maxRecDepth 20000 in
theorem gX5_driftOnce_X3_heads : GoodIn wsX5_driftOnce (wsV RX5 56 RX3 yX3_heads wsX3_heads) := goodIn_app (goodIn_of _ (by decide +kernel)) ggX5_driftOnce_X3_heads
set_option maxRecDepth 20000 in
theorem ggX5_driftOnce_X1_next : GoodIn wsX5_driftOnce wsX1_next := goodIn_r _ [14, 15, 16, 17, 18, 141] (by decide +kernel) (by decide +kernel)
set_option maxRecDepth 20000 in
theorem gX5_driftOnce_X1_next : GoodIn wsX5_driftOnce (wsV RX5 203 RX1 yX1_next wsX1_next) := goodIn_app (goodIn_of _ (by decide +kernel)) ggX5_driftOnce_X1_next
set_option maxRecDepth 20000 in
theorem ggX5_driftOnce_X3_canCarry : GoodIn wsX5_driftOnce wsX3_canCarry := goodIn_r _ [22, 23, 24, 25, 26, 6, 27, 28, 29, 30, 31, 8, 9, 32, 33, 34, 35, 36, 37, 38, 39, 126, 127, 128, 129, 130, 131, 132, 133, 134, 135, 136, 137, 138, 139, 140] (by decide +kernel) (by decide +kernel)
set_option maxRecDepth 20000 in
theorem gX5_driftOnce_X3_canCarry : GoodIn wsX5_driftOnce (wsV RX5 183 RX3 yX3_canCarry wsX3_canCarry) := goodIn_app (goodIn_of _ (by decide +kernel)) ggX5_driftOnce_X3_canCarry
set_option maxRecDepth 20000 in
theorem ggX5_driftOnce_X3_feelsAll : GoodIn wsX5_driftOnce wsX3_feelsAll := goodIn_r _ [43, 44, 45, 126, 127, 128, 129, 130, 131, 132, 133, 134, 135, 136, 137, 138, 139, 140] (by decide +kernel) (by decide +kernel)
set_option maxRecDepth 20000 in
theorem gX5_driftOnce_X3_feelsAll : GoodIn wsX5_driftOnce (wsV RX5 176 RX3 yX3_feelsAll wsX3_feelsAll) := goodIn_app (goodIn_of _ (by decide +kernel)) ggX5_driftOnce_X3_feelsAll
set_option maxRecDepth 20000 in
theorem ggX5_driftOnce_X3_carry : GoodIn wsX5_driftOnce wsX3_carry := goodIn_r _ [49, 50, 23, 24, 25, 26, 6, 27, 28, 29, 30, 31, 8, 9, 32, 33, 34, 35, 36, 37, 38, 39, 126, 127, 128, 129, 130, 131, 132, 133, 134, 135, 136, 137, 138, 139, 140] (by decide +kernel) (by decide +kernel)
set_option maxRecDepth 20000 in
theorem gX5_driftOnce_X3_carry : GoodIn wsX5_driftOnce (wsV RX5 179 RX3 yX3_carry wsX3_carry) := goodIn_app (goodIn_of _ (by decide +kernel)) ggX5_driftOnce_X3_carry
set_option maxRecDepth 20000 in
theorem ggX5_driftOnce_X3_pass : GoodIn wsX5_driftOnce wsX3_pass := goodIn_r _ [54, 9, 55, 56, 57, 58, 6, 59, 60, 61, 4, 5, 7, 8, 62, 63, 64, 65, 50, 66, 67, 44, 32, 33, 34, 35, 68, 69, 70, 71, 72, 36, 37, 38, 39, 28, 29, 30, 31, 73, 74, 75, 76, 77, 78, 79, 80, 81, 82, 83, 84, 85, 86, 87, 88, 89, 90, 91, 92, 93, 94, 95, 96, 97, 98, 99, 100, 101, 102, 103, 104, 105, 106, 107, 108, 109, 110, 111, 112, 113, 114, 115, 116, 117, 118, 119, 126, 127, 128, 129, 130, 131, 132, 133, 134, 135, 136, 137, 138, 139, 140] (by decide +kernel) (by decide +kernel)
set_option maxRecDepth 20000 in
theorem gX5_driftOnce_X3_pass : GoodIn wsX5_driftOnce (wsV RX5 190 RX3 yX3_pass wsX3_pass) := goodIn_app (goodIn_of _ (by decide +kernel)) ggX5_driftOnce_X3_pass
theorem dX5_driftOnce_0 : decode cX5_driftOnce 0 = .ok (.aload_n 0, 1) := by decide +kernel
theorem dX5_driftOnce_1 : decode cX5_driftOnce 1 = .ok (.getfield 33, 3) := by decide +kernel
theorem dX5_driftOnce_4 : decode cX5_driftOnce 4 = .ok (.aload_n 0, 1) := by decide +kernel
theorem dX5_driftOnce_5 : decode cX5_driftOnce 5 = .ok (.getfield 10, 3) := by decide +kernel
theorem dX5_driftOnce_8 : decode cX5_driftOnce 8 = .ok (.invokevirtual 56, 3) := by decide +kernel
theorem dX5_driftOnce_11 : decode cX5_driftOnce 11 = .ok (.invokevirtual 203, 3) := by decide +kernel
theorem dX5_driftOnce_14 : decode cX5_driftOnce 14 = .ok (.istore_n 1, 1) := by decide +kernel
theorem dX5_driftOnce_15 : decode cX5_driftOnce 15 = .ok (.aload_n 0, 1) := by decide +kernel
theorem dX5_driftOnce_16 : decode cX5_driftOnce 16 = .ok (.getfield 33, 3) := by decide +kernel
theorem dX5_driftOnce_19 : decode cX5_driftOnce 19 = .ok (.iconst 2, 1) := by decide +kernel
theorem dX5_driftOnce_20 : decode cX5_driftOnce 20 = .ok (.invokevirtual 203, 3) := by decide +kernel
theorem dX5_driftOnce_23 : decode cX5_driftOnce 23 = .ok (.istore_n 2, 1) := by decide +kernel
theorem dX5_driftOnce_24 : decode cX5_driftOnce 24 = .ok (.aload_n 0, 1) := by decide +kernel
theorem dX5_driftOnce_25 : decode cX5_driftOnce 25 = .ok (.getfield 33, 3) := by decide +kernel
theorem dX5_driftOnce_28 : decode cX5_driftOnce 28 = .ok (.iconst 3, 1) := by decide +kernel
theorem dX5_driftOnce_29 : decode cX5_driftOnce 29 = .ok (.invokevirtual 203, 3) := by decide +kernel
theorem dX5_driftOnce_32 : decode cX5_driftOnce 32 = .ok (.iconst 1, 1) := by decide +kernel
theorem dX5_driftOnce_33 : decode cX5_driftOnce 33 = .ok (.iadd, 1) := by decide +kernel
theorem dX5_driftOnce_34 : decode cX5_driftOnce 34 = .ok (.istore_n 3, 1) := by decide +kernel
theorem dX5_driftOnce_35 : decode cX5_driftOnce 35 = .ok (.aload_n 0, 1) := by decide +kernel
theorem dX5_driftOnce_36 : decode cX5_driftOnce 36 = .ok (.getfield 33, 3) := by decide +kernel
theorem dX5_driftOnce_39 : decode cX5_driftOnce 39 = .ok (.bipush 16, 2) := by decide +kernel
theorem dX5_driftOnce_41 : decode cX5_driftOnce 41 = .ok (.invokevirtual 203, 3) := by decide +kernel
theorem dX5_driftOnce_44 : decode cX5_driftOnce 44 = .ok (.istore 4, 2) := by decide +kernel
theorem dX5_driftOnce_46 : decode cX5_driftOnce 46 = .ok (.aload_n 0, 1) := by decide +kernel
theorem dX5_driftOnce_47 : decode cX5_driftOnce 47 = .ok (.getfield 33, 3) := by decide +kernel
theorem dX5_driftOnce_50 : decode cX5_driftOnce 50 = .ok (.iconst 1, 1) := by decide +kernel
theorem dX5_driftOnce_51 : decode cX5_driftOnce 51 = .ok (.aload_n 0, 1) := by decide +kernel
theorem dX5_driftOnce_52 : decode cX5_driftOnce 52 = .ok (.getfield 10, 3) := by decide +kernel
theorem dX5_driftOnce_55 : decode cX5_driftOnce 55 = .ok (.invokevirtual 56, 3) := by decide +kernel
theorem dX5_driftOnce_58 : decode cX5_driftOnce 58 = .ok (.ishl, 1) := by decide +kernel
theorem dX5_driftOnce_59 : decode cX5_driftOnce 59 = .ok (.invokevirtual 203, 3) := by decide +kernel
theorem dX5_driftOnce_62 : decode cX5_driftOnce 62 = .ok (.istore 5, 2) := by decide +kernel
theorem dX5_driftOnce_64 : decode cX5_driftOnce 64 = .ok (.aload_n 0, 1) := by decide +kernel
theorem dX5_driftOnce_65 : decode cX5_driftOnce 65 = .ok (.getfield 10, 3) := by decide +kernel
theorem dX5_driftOnce_68 : decode cX5_driftOnce 68 = .ok (.iload_n 1, 1) := by decide +kernel
theorem dX5_driftOnce_69 : decode cX5_driftOnce 69 = .ok (.iload_n 2, 1) := by decide +kernel
theorem dX5_driftOnce_70 : decode cX5_driftOnce 70 = .ok (.iload_n 3, 1) := by decide +kernel
theorem dX5_driftOnce_71 : decode cX5_driftOnce 71 = .ok (.invokevirtual 183, 3) := by decide +kernel
theorem dX5_driftOnce_74 : decode cX5_driftOnce 74 = .ok (.ifCond .eq 35, 3) := by decide +kernel
theorem dX5_driftOnce_77 : decode cX5_driftOnce 77 = .ok (.aload_n 0, 1) := by decide +kernel
theorem dX5_driftOnce_78 : decode cX5_driftOnce 78 = .ok (.getfield 10, 3) := by decide +kernel
theorem dX5_driftOnce_81 : decode cX5_driftOnce 81 = .ok (.iload_n 1, 1) := by decide +kernel
theorem dX5_driftOnce_82 : decode cX5_driftOnce 82 = .ok (.iload_n 2, 1) := by decide +kernel
theorem dX5_driftOnce_83 : decode cX5_driftOnce 83 = .ok (.iload_n 3, 1) := by decide +kernel
theorem dX5_driftOnce_84 : decode cX5_driftOnce 84 = .ok (.iload 4, 2) := by decide +kernel
theorem dX5_driftOnce_86 : decode cX5_driftOnce 86 = .ok (.ifCond .eq 18, 3) := by decide +kernel
theorem dX5_driftOnce_89 : decode cX5_driftOnce 89 = .ok (.aload_n 0, 1) := by decide +kernel
theorem dX5_driftOnce_90 : decode cX5_driftOnce 90 = .ok (.getfield 10, 3) := by decide +kernel
theorem dX5_driftOnce_93 : decode cX5_driftOnce 93 = .ok (.iload_n 1, 1) := by decide +kernel
theorem dX5_driftOnce_94 : decode cX5_driftOnce 94 = .ok (.invokevirtual 176, 3) := by decide +kernel
theorem dX5_driftOnce_97 : decode cX5_driftOnce 97 = .ok (.ifCond .eq 7, 3) := by decide +kernel
theorem dX5_driftOnce_100 : decode cX5_driftOnce 100 = .ok (.iconst 1, 1) := by decide +kernel
theorem dX5_driftOnce_101 : decode cX5_driftOnce 101 = .ok (.goto 4, 3) := by decide +kernel
theorem dX5_driftOnce_104 : decode cX5_driftOnce 104 = .ok (.iconst 0, 1) := by decide +kernel
theorem dX5_driftOnce_105 : decode cX5_driftOnce 105 = .ok (.invokevirtual 179, 3) := by decide +kernel
theorem dX5_driftOnce_108 : decode cX5_driftOnce 108 = .ok (.pop, 1) := by decide +kernel
theorem dX5_driftOnce_109 : decode cX5_driftOnce 109 = .ok (.aload_n 0, 1) := by decide +kernel
theorem dX5_driftOnce_110 : decode cX5_driftOnce 110 = .ok (.getfield 10, 3) := by decide +kernel
theorem dX5_driftOnce_113 : decode cX5_driftOnce 113 = .ok (.iload 4, 2) := by decide +kernel
theorem dX5_driftOnce_115 : decode cX5_driftOnce 115 = .ok (.iconst 4, 1) := by decide +kernel
theorem dX5_driftOnce_116 : decode cX5_driftOnce 116 = .ok (.if_icmp .ge 8, 3) := by decide +kernel
theorem dX5_driftOnce_119 : decode cX5_driftOnce 119 = .ok (.iload 5, 2) := by decide +kernel
theorem dX5_driftOnce_121 : decode cX5_driftOnce 121 = .ok (.goto 4, 3) := by decide +kernel
theorem dX5_driftOnce_124 : decode cX5_driftOnce 124 = .ok (.iconst 0, 1) := by decide +kernel
theorem dX5_driftOnce_125 : decode cX5_driftOnce 125 = .ok (.invokevirtual 190, 3) := by decide +kernel
theorem dX5_driftOnce_128 : decode cX5_driftOnce 128 = .ok (.return_, 1) := by decide +kernel
set_option maxRecDepth 20000 in
theorem ggX5_undo_X4_takeBack : GoodIn wsX5_undo wsX4_takeBack := goodIn_r _ [10, 11, 12, 13, 14, 15, 16, 17, 18, 19, 20, 21, 22, 23, 24, 25, 26, 27, 28, 29, 30, 31, 32, 33, 34, 35, 36, 37, 38, 39, 40, 47, 48, 49, 50, 51, 52, 53, 54, 55, 56, 57, 58, 59, 60, 61, 62, 63, 64] (by decide +kernel) (by decide +kernel)
set_option maxRecDepth 20000 in
theorem gX5_undo_X4_takeBack : GoodIn wsX5_undo (wsV RX5 206 RX4 yX4_takeBack wsX4_takeBack) := goodIn_app (goodIn_of _ (by decide +kernel)) ggX5_undo_X4_takeBack
theorem dX5_undo_0 : decode cX5_undo 0 = .ok (.iload_n 1, 1) := by decide +kernel
theorem dX5_undo_1 : decode cX5_undo 1 = .ok (.iconst 1, 1) := by decide +kernel
theorem dX5_undo_2 : decode cX5_undo 2 = .ok (.if_icmp .lt 9, 3) := by decide +kernel
theorem dX5_undo_5 : decode cX5_undo 5 = .ok (.iload_n 1, 1) := by decide +kernel
theorem dX5_undo_6 : decode cX5_undo 6 = .ok (.bipush 16, 2) := by decide +kernel
theorem dX5_undo_8 : decode cX5_undo 8 = .ok (.if_icmp .le 6, 3) := by decide +kernel
theorem dX5_undo_11 : decode cX5_undo 11 = .ok (.ldc 97, 2) := by decide +kernel
theorem dX5_undo_13 : decode cX5_undo 13 = .ok (.ireturn, 1) := by decide +kernel
theorem dX5_undo_14 : decode cX5_undo 14 = .ok (.iload_n 1, 1) := by decide +kernel
theorem dX5_undo_15 : decode cX5_undo 15 = .ok (.aload_n 0, 1) := by decide +kernel
theorem dX5_undo_16 : decode cX5_undo 16 = .ok (.getfield 19, 3) := by decide +kernel
theorem dX5_undo_19 : decode cX5_undo 19 = .ok (.getfield 96, 3) := by decide +kernel
theorem dX5_undo_22 : decode cX5_undo 22 = .ok (.if_icmp .le 6, 3) := by decide +kernel
theorem dX5_undo_25 : decode cX5_undo 25 = .ok (.ldc 167, 2) := by decide +kernel
theorem dX5_undo_27 : decode cX5_undo 27 = .ok (.ireturn, 1) := by decide +kernel
theorem dX5_undo_28 : decode cX5_undo 28 = .ok (.aload_n 0, 1) := by decide +kernel
theorem dX5_undo_29 : decode cX5_undo 29 = .ok (.getfield 19, 3) := by decide +kernel
theorem dX5_undo_32 : decode cX5_undo 32 = .ok (.iload_n 1, 1) := by decide +kernel
theorem dX5_undo_33 : decode cX5_undo 33 = .ok (.aload_n 0, 1) := by decide +kernel
theorem dX5_undo_34 : decode cX5_undo 34 = .ok (.getfield 10, 3) := by decide +kernel
theorem dX5_undo_37 : decode cX5_undo 37 = .ok (.invokevirtual 206, 3) := by decide +kernel
theorem dX5_undo_40 : decode cX5_undo 40 = .ok (.aload_n 0, 1) := by decide +kernel
theorem dX5_undo_41 : decode cX5_undo 41 = .ok (.getfield 19, 3) := by decide +kernel
theorem dX5_undo_44 : decode cX5_undo 44 = .ok (.getfield 96, 3) := by decide +kernel
theorem dX5_undo_47 : decode cX5_undo 47 = .ok (.ireturn, 1) := by decide +kernel
set_option maxRecDepth 20000 in
theorem ggX5_would_X3_hasHeads : GoodIn wsX5_would wsX3_hasHeads := goodIn_r _ [8, 9, 10, 11, 7, 12, 13, 14, 128, 129, 130, 131, 132, 133, 134, 135, 136, 137, 138, 139, 140, 141, 142] (by decide +kernel) (by decide +kernel)
set_option maxRecDepth 20000 in
theorem gX5_would_X3_hasHeads : GoodIn wsX5_would (wsV RX5 187 RX3 yX3_hasHeads wsX3_hasHeads) := goodIn_app (goodIn_of _ (by decide +kernel)) ggX5_would_X3_hasHeads
set_option maxRecDepth 20000 in
theorem ggX5_would_X3_save : GoodIn wsX5_would wsX3_save := goodIn_r _ [18, 14, 13, 19, 20, 21, 22, 23, 24, 25, 26, 27, 28, 29, 30, 31, 32, 33, 7, 34, 35, 36, 37, 38, 128, 129, 130, 131, 132, 133, 134, 135, 136, 137, 138, 139, 140, 141, 142] (by decide +kernel) (by decide +kernel)
set_option maxRecDepth 20000 in
theorem gX5_would_X3_save : GoodIn wsX5_would (wsV RX5 210 RX3 yX3_save wsX3_save) := goodIn_app (goodIn_of _ (by decide +kernel)) ggX5_would_X3_save
set_option maxRecDepth 20000 in
theorem ggX5_would_X3_pass : GoodIn wsX5_would wsX3_pass := goodIn_r _ [42, 14, 19, 43, 44, 45, 7, 46, 26, 9, 10, 11, 12, 13, 47, 48, 49, 50, 22, 24, 25, 23, 51, 52, 53, 54, 55, 56, 57, 58, 28, 59, 60, 61, 62, 63, 64, 65, 66, 67, 68, 69, 70, 29, 71, 72, 73, 74, 75, 76, 77, 78, 79, 80, 81, 82, 83, 84, 85, 86, 87, 88, 89, 90, 30, 91, 92, 93, 94, 95, 96, 97, 98, 27, 99, 100, 101, 102, 103, 104, 105, 106, 107, 108, 109, 110, 128, 129, 130, 131, 132, 133, 134, 135, 136, 137, 138, 139, 140, 141, 142] (by decide +kernel) (by decide +kernel)
set_option maxRecDepth 20000 in
theorem gX5_would_X3_pass : GoodIn wsX5_would (wsV RX5 190 RX3 yX3_pass wsX3_pass) := goodIn_app (goodIn_of _ (by decide +kernel)) ggX5_would_X3_pass
set_option maxRecDepth 20000 in
theorem ggX5_would_X3_called : GoodIn wsX5_would wsX3_called := goodIn_r _ [114, 14, 29, 128, 129, 130, 131, 132, 133, 134, 135, 136, 137, 138, 139, 140, 141, 142] (by decide +kernel) (by decide +kernel)
set_option maxRecDepth 20000 in
theorem gX5_would_X3_called : GoodIn wsX5_would (wsV RX5 67 RX3 yX3_called wsX3_called) := goodIn_app (goodIn_of _ (by decide +kernel)) ggX5_would_X3_called
set_option maxRecDepth 20000 in
theorem ggX5_would_X3_load : GoodIn wsX5_would wsX3_load := goodIn_r _ [118, 14, 13, 19, 20, 21, 22, 23, 24, 25, 26, 27, 28, 29, 30, 31, 119, 120, 7, 121, 35, 36, 37, 38, 128, 129, 130, 131, 132, 133, 134, 135, 136, 137, 138, 139, 140, 141, 142] (by decide +kernel) (by decide +kernel)
set_option maxRecDepth 20000 in
theorem gX5_would_X3_load : GoodIn wsX5_would (wsV RX5 214 RX3 yX3_load wsX3_load) := goodIn_app (goodIn_of _ (by decide +kernel)) ggX5_would_X3_load
theorem dX5_would_0 : decode cX5_would 0 = .ok (.aload_n 0, 1) := by decide +kernel
theorem dX5_would_1 : decode cX5_would 1 = .ok (.getfield 10, 3) := by decide +kernel
theorem dX5_would_4 : decode cX5_would 4 = .ok (.iload_n 1, 1) := by decide +kernel
theorem dX5_would_5 : decode cX5_would 5 = .ok (.invokevirtual 187, 3) := by decide +kernel
theorem dX5_would_8 : decode cX5_would 8 = .ok (.ifCond .ne 6, 3) := by decide +kernel
theorem dX5_would_11 : decode cX5_would 11 = .ok (.ldc 102, 2) := by decide +kernel
theorem dX5_would_13 : decode cX5_would 13 = .ok (.ireturn, 1) := by decide +kernel
theorem dX5_would_14 : decode cX5_would 14 = .ok (.aload_n 0, 1) := by decide +kernel
theorem dX5_would_15 : decode cX5_would 15 = .ok (.getfield 10, 3) := by decide +kernel
theorem dX5_would_18 : decode cX5_would 18 = .ok (.aload_n 0, 1) := by decide +kernel
theorem dX5_would_19 : decode cX5_would 19 = .ok (.getfield 44, 3) := by decide +kernel
theorem dX5_would_22 : decode cX5_would 22 = .ok (.invokevirtual 210, 3) := by decide +kernel
theorem dX5_would_25 : decode cX5_would 25 = .ok (.aload_n 0, 1) := by decide +kernel
theorem dX5_would_26 : decode cX5_would 26 = .ok (.getfield 10, 3) := by decide +kernel
theorem dX5_would_29 : decode cX5_would 29 = .ok (.iload_n 1, 1) := by decide +kernel
theorem dX5_would_30 : decode cX5_would 30 = .ok (.invokevirtual 190, 3) := by decide +kernel
theorem dX5_would_33 : decode cX5_would 33 = .ok (.aload_n 0, 1) := by decide +kernel
theorem dX5_would_34 : decode cX5_would 34 = .ok (.getfield 10, 3) := by decide +kernel
theorem dX5_would_37 : decode cX5_would 37 = .ok (.iconst 0, 1) := by decide +kernel
theorem dX5_would_38 : decode cX5_would 38 = .ok (.invokevirtual 67, 3) := by decide +kernel
theorem dX5_would_41 : decode cX5_would 41 = .ok (.istore_n 2, 1) := by decide +kernel
theorem dX5_would_42 : decode cX5_would 42 = .ok (.aload_n 0, 1) := by decide +kernel
theorem dX5_would_43 : decode cX5_would 43 = .ok (.getfield 10, 3) := by decide +kernel
theorem dX5_would_46 : decode cX5_would 46 = .ok (.aload_n 0, 1) := by decide +kernel
theorem dX5_would_47 : decode cX5_would 47 = .ok (.getfield 44, 3) := by decide +kernel
theorem dX5_would_50 : decode cX5_would 50 = .ok (.invokevirtual 214, 3) := by decide +kernel
theorem dX5_would_53 : decode cX5_would 53 = .ok (.iload_n 2, 1) := by decide +kernel
theorem dX5_would_54 : decode cX5_would 54 = .ok (.ireturn, 1) := by decide +kernel
set_option maxRecDepth 20000 in
theorem ggX5_write_X3_hasSection : GoodIn wsX5_write wsX3_hasSection := goodIn_r _ [11, 12, 30, 31, 32, 33, 34, 35, 36, 37, 38, 39, 40, 41, 42, 43, 44] (by decide +kernel) (by decide +kernel)
set_option maxRecDepth 20000 in
theorem gX5_write_X3_hasSection : GoodIn wsX5_write (wsV RX5 98 RX3 yX3_hasSection wsX3_hasSection) := goodIn_app (goodIn_of _ (by decide +kernel)) ggX5_write_X3_hasSection
set_option maxRecDepth 20000 in
theorem ggX5_write_X0_add : GoodIn wsX5_write wsX0_add := goodIn_r _ [17, 18, 19, 20, 27, 28, 29] (by decide +kernel) (by decide +kernel)
set_option maxRecDepth 20000 in
theorem gX5_write_X0_add : GoodIn wsX5_write (wsV RX5 218 RX0 yX0_add wsX0_add) := goodIn_app (goodIn_of _ (by decide +kernel)) ggX5_write_X0_add
theorem dX5_write_0 : decode cX5_write 0 = .ok (.aload_n 0, 1) := by decide +kernel
theorem dX5_write_1 : decode cX5_write 1 = .ok (.getfield 10, 3) := by decide +kernel
theorem dX5_write_4 : decode cX5_write 4 = .ok (.iload_n 1, 1) := by decide +kernel
theorem dX5_write_5 : decode cX5_write 5 = .ok (.invokevirtual 98, 3) := by decide +kernel
theorem dX5_write_8 : decode cX5_write 8 = .ok (.ifCond .ne 6, 3) := by decide +kernel
theorem dX5_write_11 : decode cX5_write 11 = .ok (.ldc 102, 2) := by decide +kernel
theorem dX5_write_13 : decode cX5_write 13 = .ok (.ireturn, 1) := by decide +kernel
theorem dX5_write_14 : decode cX5_write 14 = .ok (.iload_n 2, 1) := by decide +kernel
theorem dX5_write_15 : decode cX5_write 15 = .ok (.ifCond .lt 8, 3) := by decide +kernel
theorem dX5_write_18 : decode cX5_write 18 = .ok (.iload_n 2, 1) := by decide +kernel
theorem dX5_write_19 : decode cX5_write 19 = .ok (.iconst 3, 1) := by decide +kernel
theorem dX5_write_20 : decode cX5_write 20 = .ok (.if_icmp .le 6, 3) := by decide +kernel
theorem dX5_write_23 : decode cX5_write 23 = .ok (.ldc 97, 2) := by decide +kernel
theorem dX5_write_25 : decode cX5_write 25 = .ok (.ireturn, 1) := by decide +kernel
theorem dX5_write_26 : decode cX5_write 26 = .ok (.aload_n 0, 1) := by decide +kernel
theorem dX5_write_27 : decode cX5_write 27 = .ok (.getfield 26, 3) := by decide +kernel
theorem dX5_write_30 : decode cX5_write 30 = .ok (.getfield 89, 3) := by decide +kernel
theorem dX5_write_33 : decode cX5_write 33 = .ok (.bipush 20, 2) := by decide +kernel
theorem dX5_write_35 : decode cX5_write 35 = .ok (.if_icmp .lt 6, 3) := by decide +kernel
theorem dX5_write_38 : decode cX5_write 38 = .ok (.ldc 217, 2) := by decide +kernel
theorem dX5_write_40 : decode cX5_write 40 = .ok (.ireturn, 1) := by decide +kernel
theorem dX5_write_41 : decode cX5_write 41 = .ok (.aload_n 0, 1) := by decide +kernel
theorem dX5_write_42 : decode cX5_write 42 = .ok (.getfield 26, 3) := by decide +kernel
theorem dX5_write_45 : decode cX5_write 45 = .ok (.iload_n 1, 1) := by decide +kernel
theorem dX5_write_46 : decode cX5_write 46 = .ok (.iload_n 2, 1) := by decide +kernel
theorem dX5_write_47 : decode cX5_write 47 = .ok (.invokevirtual 218, 3) := by decide +kernel
theorem dX5_write_50 : decode cX5_write 50 = .ok (.aload_n 0, 1) := by decide +kernel
theorem dX5_write_51 : decode cX5_write 51 = .ok (.getfield 26, 3) := by decide +kernel
theorem dX5_write_54 : decode cX5_write 54 = .ok (.getfield 89, 3) := by decide +kernel
theorem dX5_write_57 : decode cX5_write 57 = .ok (.ireturn, 1) := by decide +kernel
theorem dX5_tear_0 : decode cX5_tear 0 = .ok (.aload_n 0, 1) := by decide +kernel
theorem dX5_tear_1 : decode cX5_tear 1 = .ok (.getfield 26, 3) := by decide +kernel
theorem dX5_tear_4 : decode cX5_tear 4 = .ok (.getfield 89, 3) := by decide +kernel
theorem dX5_tear_7 : decode cX5_tear 7 = .ok (.istore_n 1, 1) := by decide +kernel
theorem dX5_tear_8 : decode cX5_tear 8 = .ok (.aload_n 0, 1) := by decide +kernel
theorem dX5_tear_9 : decode cX5_tear 9 = .ok (.getfield 26, 3) := by decide +kernel
theorem dX5_tear_12 : decode cX5_tear 12 = .ok (.iconst 0, 1) := by decide +kernel
theorem dX5_tear_13 : decode cX5_tear 13 = .ok (.putfield 89, 3) := by decide +kernel
theorem dX5_tear_16 : decode cX5_tear 16 = .ok (.iload_n 1, 1) := by decide +kernel
theorem dX5_tear_17 : decode cX5_tear 17 = .ok (.ireturn, 1) := by decide +kernel
theorem dX5_seed_0 : decode cX5_seed 0 = .ok (.iload_n 1, 1) := by decide +kernel
theorem dX5_seed_1 : decode cX5_seed 1 = .ok (.ifCond .ge 6, 3) := by decide +kernel
theorem dX5_seed_4 : decode cX5_seed 4 = .ok (.ldc 97, 2) := by decide +kernel
theorem dX5_seed_6 : decode cX5_seed 6 = .ok (.ireturn, 1) := by decide +kernel
theorem dX5_seed_7 : decode cX5_seed 7 = .ok (.aload_n 0, 1) := by decide +kernel
theorem dX5_seed_8 : decode cX5_seed 8 = .ok (.getfield 33, 3) := by decide +kernel
theorem dX5_seed_11 : decode cX5_seed 11 = .ok (.getfield 221, 3) := by decide +kernel
theorem dX5_seed_14 : decode cX5_seed 14 = .ok (.istore_n 2, 1) := by decide +kernel
theorem dX5_seed_15 : decode cX5_seed 15 = .ok (.aload_n 0, 1) := by decide +kernel
theorem dX5_seed_16 : decode cX5_seed 16 = .ok (.getfield 33, 3) := by decide +kernel
theorem dX5_seed_19 : decode cX5_seed 19 = .ok (.iload_n 1, 1) := by decide +kernel
theorem dX5_seed_20 : decode cX5_seed 20 = .ok (.putfield 221, 3) := by decide +kernel
theorem dX5_seed_23 : decode cX5_seed 23 = .ok (.iload_n 2, 1) := by decide +kernel
theorem dX5_seed_24 : decode cX5_seed 24 = .ok (.ireturn, 1) := by decide +kernel
set_option maxRecDepth 20000 in
theorem ggX5_keep_X2_hasPlace : GoodIn wsX5_keep wsX2_hasPlace := goodIn_r _ [11] (by decide +kernel) (by decide +kernel)
set_option maxRecDepth 20000 in
theorem gX5_keep_X2_hasPlace : GoodIn wsX5_keep (wsV RX5 224 RX2 yX2_hasPlace wsX2_hasPlace) := goodIn_app (goodIn_of _ (by decide +kernel)) ggX5_keep_X2_hasPlace
set_option maxRecDepth 20000 in
theorem ggX5_keep_X2_take : GoodIn wsX5_keep wsX2_take := goodIn_r _ [15, 16, 17, 18, 19, 20, 21, 22, 23, 24, 25, 26, 27, 28, 29, 30, 31, 32, 33, 34, 35, 36, 37, 38, 39, 40, 41, 42, 43, 44, 45, 46, 56, 57, 58, 59, 60, 61, 62, 63, 64, 65, 66, 67, 68, 69, 70, 71, 72, 73, 74] (by decide +kernel) (by decide +kernel)
set_option maxRecDepth 20000 in
theorem gX5_keep_X2_take : GoodIn wsX5_keep (wsV RX5 227 RX2 yX2_take wsX2_take) := goodIn_app (goodIn_of _ (by decide +kernel)) ggX5_keep_X2_take
theorem dX5_keep_0 : decode cX5_keep 0 = .ok (.aload_n 0, 1) := by decide +kernel
theorem dX5_keep_1 : decode cX5_keep 1 = .ok (.getfield 40, 3) := by decide +kernel
theorem dX5_keep_4 : decode cX5_keep 4 = .ok (.iload_n 1, 1) := by decide +kernel
theorem dX5_keep_5 : decode cX5_keep 5 = .ok (.invokevirtual 224, 3) := by decide +kernel
theorem dX5_keep_8 : decode cX5_keep 8 = .ok (.ifCond .ne 6, 3) := by decide +kernel
theorem dX5_keep_11 : decode cX5_keep 11 = .ok (.ldc 102, 2) := by decide +kernel
theorem dX5_keep_13 : decode cX5_keep 13 = .ok (.ireturn, 1) := by decide +kernel
theorem dX5_keep_14 : decode cX5_keep 14 = .ok (.aload_n 0, 1) := by decide +kernel
theorem dX5_keep_15 : decode cX5_keep 15 = .ok (.getfield 40, 3) := by decide +kernel
theorem dX5_keep_18 : decode cX5_keep 18 = .ok (.iload_n 1, 1) := by decide +kernel
theorem dX5_keep_19 : decode cX5_keep 19 = .ok (.aload_n 0, 1) := by decide +kernel
theorem dX5_keep_20 : decode cX5_keep 20 = .ok (.getfield 10, 3) := by decide +kernel
theorem dX5_keep_23 : decode cX5_keep 23 = .ok (.aload_n 0, 1) := by decide +kernel
theorem dX5_keep_24 : decode cX5_keep 24 = .ok (.getfield 33, 3) := by decide +kernel
theorem dX5_keep_27 : decode cX5_keep 27 = .ok (.invokevirtual 227, 3) := by decide +kernel
theorem dX5_keep_30 : decode cX5_keep 30 = .ok (.aload_n 0, 1) := by decide +kernel
theorem dX5_keep_31 : decode cX5_keep 31 = .ok (.getfield 19, 3) := by decide +kernel
theorem dX5_keep_34 : decode cX5_keep 34 = .ok (.iconst 0, 1) := by decide +kernel
theorem dX5_keep_35 : decode cX5_keep 35 = .ok (.putfield 96, 3) := by decide +kernel
theorem dX5_keep_38 : decode cX5_keep 38 = .ok (.iconst 1, 1) := by decide +kernel
theorem dX5_keep_39 : decode cX5_keep 39 = .ok (.ireturn, 1) := by decide +kernel
set_option maxRecDepth 20000 in
theorem ggX5_goBack_X2_hasPlace : GoodIn wsX5_goBack wsX2_hasPlace := goodIn_r _ [13] (by decide +kernel) (by decide +kernel)
set_option maxRecDepth 20000 in
theorem gX5_goBack_X2_hasPlace : GoodIn wsX5_goBack (wsV RX5 224 RX2 yX2_hasPlace wsX2_hasPlace) := goodIn_app (goodIn_of _ (by decide +kernel)) ggX5_goBack_X2_hasPlace
set_option maxRecDepth 20000 in
theorem ggX5_goBack_X2_giveBack : GoodIn wsX5_goBack wsX2_giveBack := goodIn_r _ [17, 18, 19, 20, 21, 22, 23, 24, 25, 26, 27, 28, 29, 30, 31, 32, 33, 34, 35, 36, 37, 38, 39, 40, 41, 42, 43, 44, 45, 46, 47, 54, 55, 56, 60, 61, 62, 63, 64, 65, 66, 67, 68, 69, 70, 71, 72, 73, 74, 75] (by decide +kernel) (by decide +kernel)
set_option maxRecDepth 20000 in
theorem gX5_goBack_X2_giveBack : GoodIn wsX5_goBack (wsV RX5 235 RX2 yX2_giveBack wsX2_giveBack) := goodIn_app (goodIn_of _ (by decide +kernel)) ggX5_goBack_X2_giveBack
theorem dX5_goBack_0 : decode cX5_goBack 0 = .ok (.aload_n 0, 1) := by decide +kernel
theorem dX5_goBack_1 : decode cX5_goBack 1 = .ok (.getfield 40, 3) := by decide +kernel
theorem dX5_goBack_4 : decode cX5_goBack 4 = .ok (.iload_n 1, 1) := by decide +kernel
theorem dX5_goBack_5 : decode cX5_goBack 5 = .ok (.invokevirtual 224, 3) := by decide +kernel
theorem dX5_goBack_8 : decode cX5_goBack 8 = .ok (.ifCond .ne 6, 3) := by decide +kernel
theorem dX5_goBack_11 : decode cX5_goBack 11 = .ok (.ldc 102, 2) := by decide +kernel
theorem dX5_goBack_13 : decode cX5_goBack 13 = .ok (.ireturn, 1) := by decide +kernel
theorem dX5_goBack_14 : decode cX5_goBack 14 = .ok (.aload_n 0, 1) := by decide +kernel
theorem dX5_goBack_15 : decode cX5_goBack 15 = .ok (.getfield 40, 3) := by decide +kernel
theorem dX5_goBack_18 : decode cX5_goBack 18 = .ok (.getfield 231, 3) := by decide +kernel
theorem dX5_goBack_21 : decode cX5_goBack 21 = .ok (.iload_n 1, 1) := by decide +kernel
theorem dX5_goBack_22 : decode cX5_goBack 22 = .ok (.baload, 1) := by decide +kernel
theorem dX5_goBack_23 : decode cX5_goBack 23 = .ok (.ifCond .ne 6, 3) := by decide +kernel
theorem dX5_goBack_26 : decode cX5_goBack 26 = .ok (.ldc 167, 2) := by decide +kernel
theorem dX5_goBack_28 : decode cX5_goBack 28 = .ok (.ireturn, 1) := by decide +kernel
theorem dX5_goBack_29 : decode cX5_goBack 29 = .ok (.aload_n 0, 1) := by decide +kernel
theorem dX5_goBack_30 : decode cX5_goBack 30 = .ok (.getfield 40, 3) := by decide +kernel
theorem dX5_goBack_33 : decode cX5_goBack 33 = .ok (.iload_n 1, 1) := by decide +kernel
theorem dX5_goBack_34 : decode cX5_goBack 34 = .ok (.aload_n 0, 1) := by decide +kernel
theorem dX5_goBack_35 : decode cX5_goBack 35 = .ok (.getfield 10, 3) := by decide +kernel
theorem dX5_goBack_38 : decode cX5_goBack 38 = .ok (.aload_n 0, 1) := by decide +kernel
theorem dX5_goBack_39 : decode cX5_goBack 39 = .ok (.getfield 33, 3) := by decide +kernel
theorem dX5_goBack_42 : decode cX5_goBack 42 = .ok (.invokevirtual 235, 3) := by decide +kernel
theorem dX5_goBack_45 : decode cX5_goBack 45 = .ok (.aload_n 0, 1) := by decide +kernel
theorem dX5_goBack_46 : decode cX5_goBack 46 = .ok (.getfield 19, 3) := by decide +kernel
theorem dX5_goBack_49 : decode cX5_goBack 49 = .ok (.iconst 0, 1) := by decide +kernel
theorem dX5_goBack_50 : decode cX5_goBack 50 = .ok (.putfield 96, 3) := by decide +kernel
theorem dX5_goBack_53 : decode cX5_goBack 53 = .ok (.iconst 1, 1) := by decide +kernel
theorem dX5_goBack_54 : decode cX5_goBack 54 = .ok (.ireturn, 1) := by decide +kernel
