theorem dX5_request_52 : decode cX5_request 52 = .ok (.bipush 97, 2) := by decide +kernel
theorem dX5_request_54 : decode cX5_request 54 = .ok (.invokestatic 19, 3) := by decide +kernel
theorem dX5_request_57 : decode cX5_request 57 = .ok (.laload, 1) := by decide +kernel
theorem dX5_request_58 : decode cX5_request 58 = .ok (.lconst 1, 1) := by decide +kernel
theorem dX5_request_59 : decode cX5_request 59 = .ok (.lcmp, 1) := by decide +kernel
theorem dX5_request_60 : decode cX5_request 60 = .ok (.ifCond .eq 38, 3) := by decide +kernel
theorem dX5_request_63 : decode cX5_request 63 = .ok (.aload_n 0, 1) := by decide +kernel
theorem dX5_request_64 : decode cX5_request 64 = .ok (.getfield 7, 3) := by decide +kernel
theorem dX5_request_67 : decode cX5_request 67 = .ok (.iload_n 1, 1) := by decide +kernel
theorem dX5_request_68 : decode cX5_request 68 = .ok (.bipush 49, 2) := by decide +kernel
theorem dX5_request_70 : decode cX5_request 70 = .ok (.iload_n 2, 1) := by decide +kernel
theorem dX5_request_71 : decode cX5_request 71 = .ok (.iadd, 1) := by decide +kernel
theorem dX5_request_72 : decode cX5_request 72 = .ok (.invokestatic 19, 3) := by decide +kernel
theorem dX5_request_75 : decode cX5_request 75 = .ok (.laload, 1) := by decide +kernel
theorem dX5_request_76 : decode cX5_request 76 = .ok (.lconst 0, 1) := by decide +kernel
theorem dX5_request_77 : decode cX5_request 77 = .ok (.lcmp, 1) := by decide +kernel
theorem dX5_request_78 : decode cX5_request 78 = .ok (.ifCond .eq 20, 3) := by decide +kernel
theorem dX5_request_81 : decode cX5_request 81 = .ok (.aload_n 0, 1) := by decide +kernel
theorem dX5_request_82 : decode cX5_request 82 = .ok (.iload_n 1, 1) := by decide +kernel
theorem dX5_request_83 : decode cX5_request 83 = .ok (.iload_n 3, 1) := by decide +kernel
theorem dX5_request_84 : decode cX5_request 84 = .ok (.invokevirtual 90, 3) := by decide +kernel
theorem dX5_request_87 : decode cX5_request 87 = .ok (.ifCond .eq 11, 3) := by decide +kernel
theorem dX5_request_90 : decode cX5_request 90 = .ok (.aload_n 0, 1) := by decide +kernel
theorem dX5_request_91 : decode cX5_request 91 = .ok (.iload_n 1, 1) := by decide +kernel
theorem dX5_request_92 : decode cX5_request 92 = .ok (.invokevirtual 147, 3) := by decide +kernel
theorem dX5_request_95 : decode cX5_request 95 = .ok (.ifCond .ne 9, 3) := by decide +kernel
theorem dX5_request_98 : decode cX5_request 98 = .ok (.aload_n 0, 1) := by decide +kernel
theorem dX5_request_99 : decode cX5_request 99 = .ok (.iconst 3, 1) := by decide +kernel
theorem dX5_request_100 : decode cX5_request 100 = .ok (.invokevirtual 46, 3) := by decide +kernel
theorem dX5_request_103 : decode cX5_request 103 = .ok (.ireturn, 1) := by decide +kernel
theorem dX5_request_104 : decode cX5_request 104 = .ok (.aload_n 0, 1) := by decide +kernel
theorem dX5_request_105 : decode cX5_request 105 = .ok (.invokevirtual 53, 3) := by decide +kernel
theorem dX5_request_108 : decode cX5_request 108 = .ok (.aload_n 0, 1) := by decide +kernel
theorem dX5_request_109 : decode cX5_request 109 = .ok (.getfield 7, 3) := by decide +kernel
theorem dX5_request_112 : decode cX5_request 112 = .ok (.iload_n 1, 1) := by decide +kernel
theorem dX5_request_113 : decode cX5_request 113 = .ok (.bipush 97, 2) := by decide +kernel
theorem dX5_request_115 : decode cX5_request 115 = .ok (.invokestatic 19, 3) := by decide +kernel
theorem dX5_request_118 : decode cX5_request 118 = .ok (.lconst 1, 1) := by decide +kernel
theorem dX5_request_119 : decode cX5_request 119 = .ok (.lastore, 1) := by decide +kernel
theorem dX5_request_120 : decode cX5_request 120 = .ok (.aload_n 0, 1) := by decide +kernel
theorem dX5_request_121 : decode cX5_request 121 = .ok (.getfield 7, 3) := by decide +kernel
theorem dX5_request_124 : decode cX5_request 124 = .ok (.iload_n 1, 1) := by decide +kernel
theorem dX5_request_125 : decode cX5_request 125 = .ok (.bipush 98, 2) := by decide +kernel
theorem dX5_request_127 : decode cX5_request 127 = .ok (.invokestatic 19, 3) := by decide +kernel
theorem dX5_request_130 : decode cX5_request 130 = .ok (.aload_n 0, 1) := by decide +kernel
theorem dX5_request_131 : decode cX5_request 131 = .ok (.getfield 7, 3) := by decide +kernel
theorem dX5_request_134 : decode cX5_request 134 = .ok (.iload_n 1, 1) := by decide +kernel
theorem dX5_request_135 : decode cX5_request 135 = .ok (.bipush 102, 2) := by decide +kernel
theorem dX5_request_137 : decode cX5_request 137 = .ok (.invokestatic 19, 3) := by decide +kernel
theorem dX5_request_140 : decode cX5_request 140 = .ok (.laload, 1) := by decide +kernel
theorem dX5_request_141 : decode cX5_request 141 = .ok (.lastore, 1) := by decide +kernel
theorem dX5_request_142 : decode cX5_request 142 = .ok (.aload_n 0, 1) := by decide +kernel
theorem dX5_request_143 : decode cX5_request 143 = .ok (.getfield 7, 3) := by decide +kernel
theorem dX5_request_146 : decode cX5_request 146 = .ok (.iload_n 1, 1) := by decide +kernel
theorem dX5_request_147 : decode cX5_request 147 = .ok (.bipush 99, 2) := by decide +kernel
theorem dX5_request_149 : decode cX5_request 149 = .ok (.invokestatic 19, 3) := by decide +kernel
theorem dX5_request_152 : decode cX5_request 152 = .ok (.iload_n 2, 1) := by decide +kernel
theorem dX5_request_153 : decode cX5_request 153 = .ok (.i2l, 1) := by decide +kernel
theorem dX5_request_154 : decode cX5_request 154 = .ok (.lastore, 1) := by decide +kernel
theorem dX5_request_155 : decode cX5_request 155 = .ok (.aload_n 0, 1) := by decide +kernel
theorem dX5_request_156 : decode cX5_request 156 = .ok (.getfield 7, 3) := by decide +kernel
theorem dX5_request_159 : decode cX5_request 159 = .ok (.iload_n 1, 1) := by decide +kernel
theorem dX5_request_160 : decode cX5_request 160 = .ok (.bipush 100, 2) := by decide +kernel
theorem dX5_request_162 : decode cX5_request 162 = .ok (.invokestatic 19, 3) := by decide +kernel
theorem dX5_request_165 : decode cX5_request 165 = .ok (.iload_n 3, 1) := by decide +kernel
theorem dX5_request_166 : decode cX5_request 166 = .ok (.i2l, 1) := by decide +kernel
theorem dX5_request_167 : decode cX5_request 167 = .ok (.lastore, 1) := by decide +kernel
theorem dX5_request_168 : decode cX5_request 168 = .ok (.aload_n 0, 1) := by decide +kernel
theorem dX5_request_169 : decode cX5_request 169 = .ok (.getfield 7, 3) := by decide +kernel
theorem dX5_request_172 : decode cX5_request 172 = .ok (.iload_n 1, 1) := by decide +kernel
theorem dX5_request_173 : decode cX5_request 173 = .ok (.bipush 101, 2) := by decide +kernel
theorem dX5_request_175 : decode cX5_request 175 = .ok (.invokestatic 19, 3) := by decide +kernel
theorem dX5_request_178 : decode cX5_request 178 = .ok (.ldc2_w 94, 3) := by decide +kernel
theorem dX5_request_181 : decode cX5_request 181 = .ok (.lastore, 1) := by decide +kernel
theorem dX5_request_182 : decode cX5_request 182 = .ok (.aload_n 0, 1) := by decide +kernel
theorem dX5_request_183 : decode cX5_request 183 = .ok (.getfield 7, 3) := by decide +kernel
theorem dX5_request_186 : decode cX5_request 186 = .ok (.iload_n 1, 1) := by decide +kernel
theorem dX5_request_187 : decode cX5_request 187 = .ok (.bipush 102, 2) := by decide +kernel
theorem dX5_request_189 : decode cX5_request 189 = .ok (.invokestatic 19, 3) := by decide +kernel
theorem dX5_request_192 : decode cX5_request 192 = .ok (.aload_n 0, 1) := by decide +kernel
theorem dX5_request_193 : decode cX5_request 193 = .ok (.getfield 7, 3) := by decide +kernel
theorem dX5_request_196 : decode cX5_request 196 = .ok (.iload_n 1, 1) := by decide +kernel
theorem dX5_request_197 : decode cX5_request 197 = .ok (.bipush 102, 2) := by decide +kernel
theorem dX5_request_199 : decode cX5_request 199 = .ok (.invokestatic 19, 3) := by decide +kernel
theorem dX5_request_202 : decode cX5_request 202 = .ok (.laload, 1) := by decide +kernel
theorem dX5_request_203 : decode cX5_request 203 = .ok (.lconst 1, 1) := by decide +kernel
theorem dX5_request_204 : decode cX5_request 204 = .ok (.ladd, 1) := by decide +kernel
theorem dX5_request_205 : decode cX5_request 205 = .ok (.ldc2_w 150, 3) := by decide +kernel
theorem dX5_request_208 : decode cX5_request 208 = .ok (.lrem, 1) := by decide +kernel
theorem dX5_request_209 : decode cX5_request 209 = .ok (.lastore, 1) := by decide +kernel
theorem dX5_request_210 : decode cX5_request 210 = .ok (.aload_n 0, 1) := by decide +kernel
theorem dX5_request_211 : decode cX5_request 211 = .ok (.iload_n 1, 1) := by decide +kernel
theorem dX5_request_212 : decode cX5_request 212 = .ok (.invokevirtual 152, 3) := by decide +kernel
theorem dX5_request_215 : decode cX5_request 215 = .ok (.ireturn, 1) := by decide +kernel
set_option maxRecDepth 20000 in
theorem ggX5_suggest_X5_isPair : GoodIn wsX5_suggest wsX5_isPair := goodIn_r _ [5, 6, 7, 4, 8] (by decide +kernel) (by decide +kernel)
set_option maxRecDepth 20000 in
theorem gX5_suggest_X5_isPair : GoodIn wsX5_suggest (va_wsS RX5 56 yX5_isPair wsX5_isPair) := goodIn_app (goodIn_of _ (by decide +kernel)) ggX5_suggest_X5_isPair
set_option maxRecDepth 20000 in
theorem ggX5_suggest_X5_weakest : GoodIn wsX5_suggest wsX5_weakest := goodIn_r _ [12, 13, 14, 15, 4, 16, 17, 18, 19, 20, 21, 22, 23, 24, 25, 26, 27, 28, 29, 30, 31, 32, 33, 34, 47, 48, 49, 50, 51, 52] (by decide +kernel) (by decide +kernel)
set_option maxRecDepth 20000 in
theorem gX5_suggest_X5_weakest : GoodIn wsX5_suggest (wsV RX5 142 RX5 yX5_weakest wsX5_weakest) := goodIn_app (goodIn_of _ (by decide +kernel)) ggX5_suggest_X5_weakest
set_option maxRecDepth 20000 in
theorem ggX5_suggest_X5_cheapest : GoodIn wsX5_suggest wsX5_cheapest := goodIn_r _ [38, 39, 40, 41, 4, 42, 13, 14, 15, 16, 43, 44, 45, 46, 27, 28, 29, 30, 31, 47, 48, 49, 50, 51, 52] (by decide +kernel) (by decide +kernel)
set_option maxRecDepth 20000 in
theorem gX5_suggest_X5_cheapest : GoodIn wsX5_suggest (wsV RX5 103 RX5 yX5_cheapest wsX5_cheapest) := goodIn_app (goodIn_of _ (by decide +kernel)) ggX5_suggest_X5_cheapest
theorem dX5_suggest_0 : decode cX5_suggest 0 = .ok (.aload_n 0, 1) := by decide +kernel
theorem dX5_suggest_1 : decode cX5_suggest 1 = .ok (.iload_n 1, 1) := by decide +kernel
theorem dX5_suggest_2 : decode cX5_suggest 2 = .ok (.invokestatic 56, 3) := by decide +kernel
theorem dX5_suggest_5 : decode cX5_suggest 5 = .ok (.ifCond .eq 7, 3) := by decide +kernel
theorem dX5_suggest_8 : decode cX5_suggest 8 = .ok (.iconst 0, 1) := by decide +kernel
theorem dX5_suggest_9 : decode cX5_suggest 9 = .ok (.goto 4, 3) := by decide +kernel
theorem dX5_suggest_12 : decode cX5_suggest 12 = .ok (.iconst 1, 1) := by decide +kernel
theorem dX5_suggest_13 : decode cX5_suggest 13 = .ok (.putfield 33, 3) := by decide +kernel
theorem dX5_suggest_16 : decode cX5_suggest 16 = .ok (.aload_n 0, 1) := by decide +kernel
theorem dX5_suggest_17 : decode cX5_suggest 17 = .ok (.getfield 33, 3) := by decide +kernel
theorem dX5_suggest_20 : decode cX5_suggest 20 = .ok (.ifCond .le 7, 3) := by decide +kernel
theorem dX5_suggest_23 : decode cX5_suggest 23 = .ok (.iconst (-1), 1) := by decide +kernel
theorem dX5_suggest_24 : decode cX5_suggest 24 = .ok (.goto 8, 3) := by decide +kernel
theorem dX5_suggest_27 : decode cX5_suggest 27 = .ok (.aload_n 0, 1) := by decide +kernel
theorem dX5_suggest_28 : decode cX5_suggest 28 = .ok (.iload_n 1, 1) := by decide +kernel
theorem dX5_suggest_29 : decode cX5_suggest 29 = .ok (.invokevirtual 142, 3) := by decide +kernel
theorem dX5_suggest_32 : decode cX5_suggest 32 = .ok (.istore_n 2, 1) := by decide +kernel
theorem dX5_suggest_33 : decode cX5_suggest 33 = .ok (.iload_n 2, 1) := by decide +kernel
theorem dX5_suggest_34 : decode cX5_suggest 34 = .ok (.iconst (-1), 1) := by decide +kernel
theorem dX5_suggest_35 : decode cX5_suggest 35 = .ok (.if_icmp .ne 7, 3) := by decide +kernel
theorem dX5_suggest_38 : decode cX5_suggest 38 = .ok (.iconst (-1), 1) := by decide +kernel
theorem dX5_suggest_39 : decode cX5_suggest 39 = .ok (.goto 9, 3) := by decide +kernel
theorem dX5_suggest_42 : decode cX5_suggest 42 = .ok (.aload_n 0, 1) := by decide +kernel
theorem dX5_suggest_43 : decode cX5_suggest 43 = .ok (.iload_n 1, 1) := by decide +kernel
theorem dX5_suggest_44 : decode cX5_suggest 44 = .ok (.iload_n 2, 1) := by decide +kernel
theorem dX5_suggest_45 : decode cX5_suggest 45 = .ok (.invokevirtual 103, 3) := by decide +kernel
theorem dX5_suggest_48 : decode cX5_suggest 48 = .ok (.istore_n 3, 1) := by decide +kernel
theorem dX5_suggest_49 : decode cX5_suggest 49 = .ok (.aload_n 0, 1) := by decide +kernel
theorem dX5_suggest_50 : decode cX5_suggest 50 = .ok (.getfield 33, 3) := by decide +kernel
theorem dX5_suggest_53 : decode cX5_suggest 53 = .ok (.ifCond .le 7, 3) := by decide +kernel
theorem dX5_suggest_56 : decode cX5_suggest 56 = .ok (.iconst 0, 1) := by decide +kernel
theorem dX5_suggest_57 : decode cX5_suggest 57 = .ok (.goto 18, 3) := by decide +kernel
theorem dX5_suggest_60 : decode cX5_suggest 60 = .ok (.iload_n 3, 1) := by decide +kernel
theorem dX5_suggest_61 : decode cX5_suggest 61 = .ok (.iconst (-1), 1) := by decide +kernel
theorem dX5_suggest_62 : decode cX5_suggest 62 = .ok (.if_icmp .ne 7, 3) := by decide +kernel
theorem dX5_suggest_65 : decode cX5_suggest 65 = .ok (.iconst (-1), 1) := by decide +kernel
theorem dX5_suggest_66 : decode cX5_suggest 66 = .ok (.goto 9, 3) := by decide +kernel
theorem dX5_suggest_69 : decode cX5_suggest 69 = .ok (.bipush 16, 2) := by decide +kernel
theorem dX5_suggest_71 : decode cX5_suggest 71 = .ok (.iload_n 2, 1) := by decide +kernel
theorem dX5_suggest_72 : decode cX5_suggest 72 = .ok (.imul, 1) := by decide +kernel
theorem dX5_suggest_73 : decode cX5_suggest 73 = .ok (.iload_n 3, 1) := by decide +kernel
theorem dX5_suggest_74 : decode cX5_suggest 74 = .ok (.iadd, 1) := by decide +kernel
theorem dX5_suggest_75 : decode cX5_suggest 75 = .ok (.ireturn, 1) := by decide +kernel
set_option maxRecDepth 20000 in
theorem ggX5_resend_X5_isPair : GoodIn wsX5_resend wsX5_isPair := goodIn_r _ [6, 7, 8, 5, 9] (by decide +kernel) (by decide +kernel)
set_option maxRecDepth 20000 in
theorem gX5_resend_X5_isPair : GoodIn wsX5_resend (va_wsS RX5 56 yX5_isPair wsX5_isPair) := goodIn_app (goodIn_of _ (by decide +kernel)) ggX5_resend_X5_isPair
set_option maxRecDepth 20000 in
theorem ggX5_resend_X5_at : GoodIn wsX5_resend wsX5_at := goodIn_r _ [12] (by decide +kernel) (by decide +kernel)
set_option maxRecDepth 20000 in
theorem gX5_resend_X5_at : GoodIn wsX5_resend (va_wsS RX5 19 yX5_at wsX5_at) := goodIn_app (goodIn_of _ (by decide +kernel)) ggX5_resend_X5_at
set_option maxRecDepth 20000 in
theorem ggX5_resend_X5_bad : GoodIn wsX5_resend wsX5_bad := goodIn_r _ [16, 1, 27, 28, 29, 30, 31, 32] (by decide +kernel) (by decide +kernel)
set_option maxRecDepth 20000 in
theorem gX5_resend_X5_bad : GoodIn wsX5_resend (wsV RX5 46 RX5 yX5_bad wsX5_bad) := goodIn_app (goodIn_of _ (by decide +kernel)) ggX5_resend_X5_bad
set_option maxRecDepth 20000 in
theorem ggX5_resend_X5_save : GoodIn wsX5_resend wsX5_save := goodIn_r _ [20, 21, 22, 2, 27, 28, 29, 30, 31, 32] (by decide +kernel) (by decide +kernel)
set_option maxRecDepth 20000 in
theorem gX5_resend_X5_save : GoodIn wsX5_resend (wsV RX5 53 RX5 yX5_save wsX5_save) := goodIn_app (goodIn_of _ (by decide +kernel)) ggX5_resend_X5_save
set_option maxRecDepth 20000 in
theorem ggX5_resend_X5_send : GoodIn wsX5_resend wsX5_send := goodIn_r _ [26, 2, 10, 11, 5, 12, 27, 28, 29, 30, 31, 32] (by decide +kernel) (by decide +kernel)
set_option maxRecDepth 20000 in
theorem gX5_resend_X5_send : GoodIn wsX5_resend (wsV RX5 152 RX5 yX5_send wsX5_send) := goodIn_app (goodIn_of _ (by decide +kernel)) ggX5_resend_X5_send
theorem dX5_resend_0 : decode cX5_resend 0 = .ok (.aload_n 0, 1) := by decide +kernel
theorem dX5_resend_1 : decode cX5_resend 1 = .ok (.iload_n 1, 1) := by decide +kernel
theorem dX5_resend_2 : decode cX5_resend 2 = .ok (.invokestatic 56, 3) := by decide +kernel
theorem dX5_resend_5 : decode cX5_resend 5 = .ok (.ifCond .eq 7, 3) := by decide +kernel
theorem dX5_resend_8 : decode cX5_resend 8 = .ok (.iconst 0, 1) := by decide +kernel
theorem dX5_resend_9 : decode cX5_resend 9 = .ok (.goto 4, 3) := by decide +kernel
theorem dX5_resend_12 : decode cX5_resend 12 = .ok (.iconst 1, 1) := by decide +kernel
theorem dX5_resend_13 : decode cX5_resend 13 = .ok (.putfield 33, 3) := by decide +kernel
theorem dX5_resend_16 : decode cX5_resend 16 = .ok (.aload_n 0, 1) := by decide +kernel
theorem dX5_resend_17 : decode cX5_resend 17 = .ok (.getfield 33, 3) := by decide +kernel
theorem dX5_resend_20 : decode cX5_resend 20 = .ok (.ifCond .le 5, 3) := by decide +kernel
theorem dX5_resend_23 : decode cX5_resend 23 = .ok (.iconst 0, 1) := by decide +kernel
theorem dX5_resend_24 : decode cX5_resend 24 = .ok (.ireturn, 1) := by decide +kernel
theorem dX5_resend_25 : decode cX5_resend 25 = .ok (.aload_n 0, 1) := by decide +kernel
theorem dX5_resend_26 : decode cX5_resend 26 = .ok (.getfield 7, 3) := by decide +kernel
theorem dX5_resend_29 : decode cX5_resend 29 = .ok (.iload_n 1, 1) := by decide +kernel
theorem dX5_resend_30 : decode cX5_resend 30 = .ok (.bipush 97, 2) := by decide +kernel
theorem dX5_resend_32 : decode cX5_resend 32 = .ok (.invokestatic 19, 3) := by decide +kernel
theorem dX5_resend_35 : decode cX5_resend 35 = .ok (.laload, 1) := by decide +kernel
theorem dX5_resend_36 : decode cX5_resend 36 = .ok (.lconst 0, 1) := by decide +kernel
theorem dX5_resend_37 : decode cX5_resend 37 = .ok (.lcmp, 1) := by decide +kernel
theorem dX5_resend_38 : decode cX5_resend 38 = .ok (.ifCond .ne 9, 3) := by decide +kernel
theorem dX5_resend_41 : decode cX5_resend 41 = .ok (.aload_n 0, 1) := by decide +kernel
theorem dX5_resend_42 : decode cX5_resend 42 = .ok (.iconst 2, 1) := by decide +kernel
theorem dX5_resend_43 : decode cX5_resend 43 = .ok (.invokevirtual 46, 3) := by decide +kernel
theorem dX5_resend_46 : decode cX5_resend 46 = .ok (.ireturn, 1) := by decide +kernel
theorem dX5_resend_47 : decode cX5_resend 47 = .ok (.aload_n 0, 1) := by decide +kernel
theorem dX5_resend_48 : decode cX5_resend 48 = .ok (.invokevirtual 53, 3) := by decide +kernel
theorem dX5_resend_51 : decode cX5_resend 51 = .ok (.aload_n 0, 1) := by decide +kernel
theorem dX5_resend_52 : decode cX5_resend 52 = .ok (.iload_n 1, 1) := by decide +kernel
theorem dX5_resend_53 : decode cX5_resend 53 = .ok (.invokevirtual 152, 3) := by decide +kernel
theorem dX5_resend_56 : decode cX5_resend 56 = .ok (.ireturn, 1) := by decide +kernel
set_option maxRecDepth 20000 in
theorem ggX5_askSender_X5_at : GoodIn wsX5_askSender wsX5_at := goodIn_r _ [6] (by decide +kernel) (by decide +kernel)
set_option maxRecDepth 20000 in
theorem gX5_askSender_X5_at : GoodIn wsX5_askSender (va_wsS RX5 19 yX5_at wsX5_at) := goodIn_app (goodIn_of _ (by decide +kernel)) ggX5_askSender_X5_at
theorem dX5_askSender_0 : decode cX5_askSender 0 = .ok (.aload_n 0, 1) := by decide +kernel
theorem dX5_askSender_1 : decode cX5_askSender 1 = .ok (.getfield 7, 3) := by decide +kernel
theorem dX5_askSender_4 : decode cX5_askSender 4 = .ok (.iload_n 1, 1) := by decide +kernel
theorem dX5_askSender_5 : decode cX5_askSender 5 = .ok (.bipush 103, 2) := by decide +kernel
theorem dX5_askSender_7 : decode cX5_askSender 7 = .ok (.invokestatic 19, 3) := by decide +kernel
theorem dX5_askSender_10 : decode cX5_askSender 10 = .ok (.laload, 1) := by decide +kernel
theorem dX5_askSender_11 : decode cX5_askSender 11 = .ok (.lconst 1, 1) := by decide +kernel
theorem dX5_askSender_12 : decode cX5_askSender 12 = .ok (.lcmp, 1) := by decide +kernel
theorem dX5_askSender_13 : decode cX5_askSender 13 = .ok (.ifCond .ne 33, 3) := by decide +kernel
theorem dX5_askSender_16 : decode cX5_askSender 16 = .ok (.aload_n 0, 1) := by decide +kernel
theorem dX5_askSender_17 : decode cX5_askSender 17 = .ok (.getfield 7, 3) := by decide +kernel
theorem dX5_askSender_20 : decode cX5_askSender 20 = .ok (.iload_n 1, 1) := by decide +kernel
theorem dX5_askSender_21 : decode cX5_askSender 21 = .ok (.bipush 104, 2) := by decide +kernel
theorem dX5_askSender_23 : decode cX5_askSender 23 = .ok (.invokestatic 19, 3) := by decide +kernel
theorem dX5_askSender_26 : decode cX5_askSender 26 = .ok (.laload, 1) := by decide +kernel
theorem dX5_askSender_27 : decode cX5_askSender 27 = .ok (.aload_n 0, 1) := by decide +kernel
theorem dX5_askSender_28 : decode cX5_askSender 28 = .ok (.getfield 7, 3) := by decide +kernel
theorem dX5_askSender_31 : decode cX5_askSender 31 = .ok (.iload_n 1, 1) := by decide +kernel
theorem dX5_askSender_32 : decode cX5_askSender 32 = .ok (.bipush 109, 2) := by decide +kernel
theorem dX5_askSender_34 : decode cX5_askSender 34 = .ok (.invokestatic 19, 3) := by decide +kernel
theorem dX5_askSender_37 : decode cX5_askSender 37 = .ok (.laload, 1) := by decide +kernel
theorem dX5_askSender_38 : decode cX5_askSender 38 = .ok (.lcmp, 1) := by decide +kernel
theorem dX5_askSender_39 : decode cX5_askSender 39 = .ok (.ifCond .ne 7, 3) := by decide +kernel
theorem dX5_askSender_42 : decode cX5_askSender 42 = .ok (.iconst 1, 1) := by decide +kernel
theorem dX5_askSender_43 : decode cX5_askSender 43 = .ok (.goto 4, 3) := by decide +kernel
theorem dX5_askSender_46 : decode cX5_askSender 46 = .ok (.iconst 0, 1) := by decide +kernel
theorem dX5_askSender_47 : decode cX5_askSender 47 = .ok (.istore_n 2, 1) := by decide +kernel
theorem dX5_askSender_48 : decode cX5_askSender 48 = .ok (.iload_n 2, 1) := by decide +kernel
theorem dX5_askSender_49 : decode cX5_askSender 49 = .ok (.ifCond .ne 75, 3) := by decide +kernel
theorem dX5_askSender_52 : decode cX5_askSender 52 = .ok (.aload_n 0, 1) := by decide +kernel
theorem dX5_askSender_53 : decode cX5_askSender 53 = .ok (.getfield 7, 3) := by decide +kernel
theorem dX5_askSender_56 : decode cX5_askSender 56 = .ok (.iload_n 1, 1) := by decide +kernel
theorem dX5_askSender_57 : decode cX5_askSender 57 = .ok (.bipush 103, 2) := by decide +kernel
theorem dX5_askSender_59 : decode cX5_askSender 59 = .ok (.invokestatic 19, 3) := by decide +kernel
theorem dX5_askSender_62 : decode cX5_askSender 62 = .ok (.lconst 1, 1) := by decide +kernel
theorem dX5_askSender_63 : decode cX5_askSender 63 = .ok (.lastore, 1) := by decide +kernel
theorem dX5_askSender_64 : decode cX5_askSender 64 = .ok (.iconst 0, 1) := by decide +kernel
theorem dX5_askSender_65 : decode cX5_askSender 65 = .ok (.istore_n 3, 1) := by decide +kernel
theorem dX5_askSender_66 : decode cX5_askSender 66 = .ok (.iload_n 3, 1) := by decide +kernel
theorem dX5_askSender_67 : decode cX5_askSender 67 = .ok (.iconst 3, 1) := by decide +kernel
theorem dX5_askSender_68 : decode cX5_askSender 68 = .ok (.if_icmp .ge 35, 3) := by decide +kernel
theorem dX5_askSender_71 : decode cX5_askSender 71 = .ok (.aload_n 0, 1) := by decide +kernel
theorem dX5_askSender_72 : decode cX5_askSender 72 = .ok (.getfield 7, 3) := by decide +kernel
theorem dX5_askSender_75 : decode cX5_askSender 75 = .ok (.iload_n 1, 1) := by decide +kernel
theorem dX5_askSender_76 : decode cX5_askSender 76 = .ok (.bipush 104, 2) := by decide +kernel
theorem dX5_askSender_78 : decode cX5_askSender 78 = .ok (.iload_n 3, 1) := by decide +kernel
theorem dX5_askSender_79 : decode cX5_askSender 79 = .ok (.iadd, 1) := by decide +kernel
theorem dX5_askSender_80 : decode cX5_askSender 80 = .ok (.invokestatic 19, 3) := by decide +kernel
theorem dX5_askSender_83 : decode cX5_askSender 83 = .ok (.aload_n 0, 1) := by decide +kernel
theorem dX5_askSender_84 : decode cX5_askSender 84 = .ok (.getfield 7, 3) := by decide +kernel
theorem dX5_askSender_87 : decode cX5_askSender 87 = .ok (.iload_n 1, 1) := by decide +kernel
theorem dX5_askSender_88 : decode cX5_askSender 88 = .ok (.bipush 109, 2) := by decide +kernel
theorem dX5_askSender_90 : decode cX5_askSender 90 = .ok (.iload_n 3, 1) := by decide +kernel
theorem dX5_askSender_91 : decode cX5_askSender 91 = .ok (.iadd, 1) := by decide +kernel
theorem dX5_askSender_92 : decode cX5_askSender 92 = .ok (.invokestatic 19, 3) := by decide +kernel
theorem dX5_askSender_95 : decode cX5_askSender 95 = .ok (.laload, 1) := by decide +kernel
theorem dX5_askSender_96 : decode cX5_askSender 96 = .ok (.lastore, 1) := by decide +kernel
theorem dX5_askSender_97 : decode cX5_askSender 97 = .ok (.iinc 3 1, 3) := by decide +kernel
theorem dX5_askSender_100 : decode cX5_askSender 100 = .ok (.goto (-34), 3) := by decide +kernel
theorem dX5_askSender_103 : decode cX5_askSender 103 = .ok (.aload_n 0, 1) := by decide +kernel
theorem dX5_askSender_104 : decode cX5_askSender 104 = .ok (.getfield 7, 3) := by decide +kernel
theorem dX5_askSender_107 : decode cX5_askSender 107 = .ok (.iload_n 1, 1) := by decide +kernel
theorem dX5_askSender_108 : decode cX5_askSender 108 = .ok (.bipush 107, 2) := by decide +kernel
theorem dX5_askSender_110 : decode cX5_askSender 110 = .ok (.invokestatic 19, 3) := by decide +kernel
theorem dX5_askSender_113 : decode cX5_askSender 113 = .ok (.aload_n 0, 1) := by decide +kernel
theorem dX5_askSender_114 : decode cX5_askSender 114 = .ok (.getfield 7, 3) := by decide +kernel
theorem dX5_askSender_117 : decode cX5_askSender 117 = .ok (.iconst 0, 1) := by decide +kernel
theorem dX5_askSender_118 : decode cX5_askSender 118 = .ok (.laload, 1) := by decide +kernel
theorem dX5_askSender_119 : decode cX5_askSender 119 = .ok (.ldc2_w 150, 3) := by decide +kernel
theorem dX5_askSender_122 : decode cX5_askSender 122 = .ok (.ladd, 1) := by decide +kernel
theorem dX5_askSender_123 : decode cX5_askSender 123 = .ok (.lastore, 1) := by decide +kernel
theorem dX5_askSender_124 : decode cX5_askSender 124 = .ok (.aload_n 0, 1) := by decide +kernel
theorem dX5_askSender_125 : decode cX5_askSender 125 = .ok (.getfield 7, 3) := by decide +kernel
theorem dX5_askSender_128 : decode cX5_askSender 128 = .ok (.iload_n 1, 1) := by decide +kernel
theorem dX5_askSender_129 : decode cX5_askSender 129 = .ok (.bipush 112, 2) := by decide +kernel
theorem dX5_askSender_131 : decode cX5_askSender 131 = .ok (.invokestatic 19, 3) := by decide +kernel
theorem dX5_askSender_134 : decode cX5_askSender 134 = .ok (.lconst 1, 1) := by decide +kernel
theorem dX5_askSender_135 : decode cX5_askSender 135 = .ok (.lastore, 1) := by decide +kernel
theorem dX5_askSender_136 : decode cX5_askSender 136 = .ok (.aload_n 0, 1) := by decide +kernel
theorem dX5_askSender_137 : decode cX5_askSender 137 = .ok (.getfield 7, 3) := by decide +kernel
theorem dX5_askSender_140 : decode cX5_askSender 140 = .ok (.iload_n 1, 1) := by decide +kernel
theorem dX5_askSender_141 : decode cX5_askSender 141 = .ok (.bipush 113, 2) := by decide +kernel
theorem dX5_askSender_143 : decode cX5_askSender 143 = .ok (.invokestatic 19, 3) := by decide +kernel
theorem dX5_askSender_146 : decode cX5_askSender 146 = .ok (.aload_n 0, 1) := by decide +kernel
theorem dX5_askSender_147 : decode cX5_askSender 147 = .ok (.getfield 7, 3) := by decide +kernel
theorem dX5_askSender_150 : decode cX5_askSender 150 = .ok (.iload_n 1, 1) := by decide +kernel
theorem dX5_askSender_151 : decode cX5_askSender 151 = .ok (.bipush 104, 2) := by decide +kernel
theorem dX5_askSender_153 : decode cX5_askSender 153 = .ok (.invokestatic 19, 3) := by decide +kernel
theorem dX5_askSender_156 : decode cX5_askSender 156 = .ok (.laload, 1) := by decide +kernel
theorem dX5_askSender_157 : decode cX5_askSender 157 = .ok (.lastore, 1) := by decide +kernel
theorem dX5_askSender_158 : decode cX5_askSender 158 = .ok (.aload_n 0, 1) := by decide +kernel
theorem dX5_askSender_159 : decode cX5_askSender 159 = .ok (.getfield 7, 3) := by decide +kernel
theorem dX5_askSender_162 : decode cX5_askSender 162 = .ok (.iload_n 1, 1) := by decide +kernel
theorem dX5_askSender_163 : decode cX5_askSender 163 = .ok (.bipush 114, 2) := by decide +kernel
theorem dX5_askSender_165 : decode cX5_askSender 165 = .ok (.invokestatic 19, 3) := by decide +kernel
theorem dX5_askSender_168 : decode cX5_askSender 168 = .ok (.aload_n 0, 1) := by decide +kernel
theorem dX5_askSender_169 : decode cX5_askSender 169 = .ok (.getfield 7, 3) := by decide +kernel
theorem dX5_askSender_172 : decode cX5_askSender 172 = .ok (.iload_n 1, 1) := by decide +kernel
theorem dX5_askSender_173 : decode cX5_askSender 173 = .ok (.bipush 107, 2) := by decide +kernel
theorem dX5_askSender_175 : decode cX5_askSender 175 = .ok (.invokestatic 19, 3) := by decide +kernel
theorem dX5_askSender_178 : decode cX5_askSender 178 = .ok (.laload, 1) := by decide +kernel
theorem dX5_askSender_179 : decode cX5_askSender 179 = .ok (.lastore, 1) := by decide +kernel
theorem dX5_askSender_180 : decode cX5_askSender 180 = .ok (.aload_n 0, 1) := by decide +kernel
theorem dX5_askSender_181 : decode cX5_askSender 181 = .ok (.getfield 7, 3) := by decide +kernel
theorem dX5_askSender_184 : decode cX5_askSender 184 = .ok (.iload_n 1, 1) := by decide +kernel
theorem dX5_askSender_185 : decode cX5_askSender 185 = .ok (.bipush 107, 2) := by decide +kernel
theorem dX5_askSender_187 : decode cX5_askSender 187 = .ok (.invokestatic 19, 3) := by decide +kernel
theorem dX5_askSender_190 : decode cX5_askSender 190 = .ok (.laload, 1) := by decide +kernel
theorem dX5_askSender_191 : decode cX5_askSender 191 = .ok (.l2i, 1) := by decide +kernel
theorem dX5_askSender_192 : decode cX5_askSender 192 = .ok (.ireturn, 1) := by decide +kernel
set_option maxRecDepth 20000 in
theorem ggX5_tellReceiver_X5_at : GoodIn wsX5_tellReceiver wsX5_at := goodIn_r _ [5] (by decide +kernel) (by decide +kernel)
set_option maxRecDepth 20000 in
theorem gX5_tellReceiver_X5_at : GoodIn wsX5_tellReceiver (va_wsS RX5 19 yX5_at wsX5_at) := goodIn_app (goodIn_of _ (by decide +kernel)) ggX5_tellReceiver_X5_at
theorem dX5_tellReceiver_0 : decode cX5_tellReceiver 0 = .ok (.aload_n 0, 1) := by decide +kernel
theorem dX5_tellReceiver_1 : decode cX5_tellReceiver 1 = .ok (.getfield 7, 3) := by decide +kernel
theorem dX5_tellReceiver_4 : decode cX5_tellReceiver 4 = .ok (.iload_n 1, 1) := by decide +kernel
theorem dX5_tellReceiver_5 : decode cX5_tellReceiver 5 = .ok (.bipush 97, 2) := by decide +kernel
theorem dX5_tellReceiver_7 : decode cX5_tellReceiver 7 = .ok (.invokestatic 19, 3) := by decide +kernel
theorem dX5_tellReceiver_10 : decode cX5_tellReceiver 10 = .ok (.laload, 1) := by decide +kernel
theorem dX5_tellReceiver_11 : decode cX5_tellReceiver 11 = .ok (.lconst 0, 1) := by decide +kernel
theorem dX5_tellReceiver_12 : decode cX5_tellReceiver 12 = .ok (.lcmp, 1) := by decide +kernel
theorem dX5_tellReceiver_13 : decode cX5_tellReceiver 13 = .ok (.ifCond .eq 29, 3) := by decide +kernel
theorem dX5_tellReceiver_16 : decode cX5_tellReceiver 16 = .ok (.aload_n 0, 1) := by decide +kernel
theorem dX5_tellReceiver_17 : decode cX5_tellReceiver 17 = .ok (.getfield 7, 3) := by decide +kernel
theorem dX5_tellReceiver_20 : decode cX5_tellReceiver 20 = .ok (.iload_n 1, 1) := by decide +kernel
theorem dX5_tellReceiver_21 : decode cX5_tellReceiver 21 = .ok (.bipush 98, 2) := by decide +kernel
theorem dX5_tellReceiver_23 : decode cX5_tellReceiver 23 = .ok (.invokestatic 19, 3) := by decide +kernel
theorem dX5_tellReceiver_26 : decode cX5_tellReceiver 26 = .ok (.laload, 1) := by decide +kernel
theorem dX5_tellReceiver_27 : decode cX5_tellReceiver 27 = .ok (.aload_n 0, 1) := by decide +kernel
theorem dX5_tellReceiver_28 : decode cX5_tellReceiver 28 = .ok (.getfield 7, 3) := by decide +kernel
theorem dX5_tellReceiver_31 : decode cX5_tellReceiver 31 = .ok (.iload_n 1, 1) := by decide +kernel
theorem dX5_tellReceiver_32 : decode cX5_tellReceiver 32 = .ok (.bipush 113, 2) := by decide +kernel
theorem dX5_tellReceiver_34 : decode cX5_tellReceiver 34 = .ok (.invokestatic 19, 3) := by decide +kernel
theorem dX5_tellReceiver_37 : decode cX5_tellReceiver 37 = .ok (.laload, 1) := by decide +kernel
theorem dX5_tellReceiver_38 : decode cX5_tellReceiver 38 = .ok (.lcmp, 1) := by decide +kernel
theorem dX5_tellReceiver_39 : decode cX5_tellReceiver 39 = .ok (.ifCond .eq 5, 3) := by decide +kernel
theorem dX5_tellReceiver_42 : decode cX5_tellReceiver 42 = .ok (.iconst (-1), 1) := by decide +kernel
theorem dX5_tellReceiver_43 : decode cX5_tellReceiver 43 = .ok (.ireturn, 1) := by decide +kernel
theorem dX5_tellReceiver_44 : decode cX5_tellReceiver 44 = .ok (.aload_n 0, 1) := by decide +kernel
theorem dX5_tellReceiver_45 : decode cX5_tellReceiver 45 = .ok (.getfield 7, 3) := by decide +kernel
theorem dX5_tellReceiver_48 : decode cX5_tellReceiver 48 = .ok (.iload_n 1, 1) := by decide +kernel
theorem dX5_tellReceiver_49 : decode cX5_tellReceiver 49 = .ok (.bipush 101, 2) := by decide +kernel
theorem dX5_tellReceiver_51 : decode cX5_tellReceiver 51 = .ok (.invokestatic 19, 3) := by decide +kernel
theorem dX5_tellReceiver_54 : decode cX5_tellReceiver 54 = .ok (.aload_n 0, 1) := by decide +kernel
theorem dX5_tellReceiver_55 : decode cX5_tellReceiver 55 = .ok (.getfield 7, 3) := by decide +kernel
theorem dX5_tellReceiver_58 : decode cX5_tellReceiver 58 = .ok (.iload_n 1, 1) := by decide +kernel
theorem dX5_tellReceiver_59 : decode cX5_tellReceiver 59 = .ok (.bipush 114, 2) := by decide +kernel
theorem dX5_tellReceiver_61 : decode cX5_tellReceiver 61 = .ok (.invokestatic 19, 3) := by decide +kernel
theorem dX5_tellReceiver_64 : decode cX5_tellReceiver 64 = .ok (.laload, 1) := by decide +kernel
theorem dX5_tellReceiver_65 : decode cX5_tellReceiver 65 = .ok (.lastore, 1) := by decide +kernel
theorem dX5_tellReceiver_66 : decode cX5_tellReceiver 66 = .ok (.aload_n 0, 1) := by decide +kernel
theorem dX5_tellReceiver_67 : decode cX5_tellReceiver 67 = .ok (.getfield 7, 3) := by decide +kernel
theorem dX5_tellReceiver_70 : decode cX5_tellReceiver 70 = .ok (.iload_n 1, 1) := by decide +kernel
theorem dX5_tellReceiver_71 : decode cX5_tellReceiver 71 = .ok (.bipush 101, 2) := by decide +kernel
theorem dX5_tellReceiver_73 : decode cX5_tellReceiver 73 = .ok (.invokestatic 19, 3) := by decide +kernel
theorem dX5_tellReceiver_76 : decode cX5_tellReceiver 76 = .ok (.laload, 1) := by decide +kernel
theorem dX5_tellReceiver_77 : decode cX5_tellReceiver 77 = .ok (.l2i, 1) := by decide +kernel
theorem dX5_tellReceiver_78 : decode cX5_tellReceiver 78 = .ok (.ireturn, 1) := by decide +kernel
set_option maxRecDepth 20000 in
theorem ggX5_deliver_X5_isPair : GoodIn wsX5_deliver wsX5_isPair := goodIn_r _ [6, 7, 8, 5, 9] (by decide +kernel) (by decide +kernel)
set_option maxRecDepth 20000 in
theorem gX5_deliver_X5_isPair : GoodIn wsX5_deliver (va_wsS RX5 56 yX5_isPair wsX5_isPair) := goodIn_app (goodIn_of _ (by decide +kernel)) ggX5_deliver_X5_isPair
set_option maxRecDepth 20000 in
theorem ggX5_deliver_X5_in : GoodIn wsX5_deliver wsX5_in := goodIn_r _ [9] (by decide +kernel) (by decide +kernel)
set_option maxRecDepth 20000 in
theorem gX5_deliver_X5_in : GoodIn wsX5_deliver (va_wsS RX5 39 yX5_in wsX5_in) := goodIn_app (goodIn_of _ (by decide +kernel)) ggX5_deliver_X5_in
set_option maxRecDepth 20000 in
theorem ggX5_deliver_X5_at : GoodIn wsX5_deliver wsX5_at := goodIn_r _ [12] (by decide +kernel) (by decide +kernel)
set_option maxRecDepth 20000 in
theorem gX5_deliver_X5_at : GoodIn wsX5_deliver (va_wsS RX5 19 yX5_at wsX5_at) := goodIn_app (goodIn_of _ (by decide +kernel)) ggX5_deliver_X5_at
set_option maxRecDepth 20000 in
theorem ggX5_deliver_X5_bad : GoodIn wsX5_deliver wsX5_bad := goodIn_r _ [16, 1, 32, 33, 34, 35, 36, 37] (by decide +kernel) (by decide +kernel)
set_option maxRecDepth 20000 in
theorem gX5_deliver_X5_bad : GoodIn wsX5_deliver (wsV RX5 46 RX5 yX5_bad wsX5_bad) := goodIn_app (goodIn_of _ (by decide +kernel)) ggX5_deliver_X5_bad
set_option maxRecDepth 20000 in
theorem ggX5_deliver_X5_save : GoodIn wsX5_deliver wsX5_save := goodIn_r _ [20, 21, 22, 2, 32, 33, 34, 35, 36, 37] (by decide +kernel) (by decide +kernel)
set_option maxRecDepth 20000 in
theorem gX5_deliver_X5_save : GoodIn wsX5_deliver (wsV RX5 53 RX5 yX5_save wsX5_save) := goodIn_app (goodIn_of _ (by decide +kernel)) ggX5_deliver_X5_save
set_option maxRecDepth 20000 in
theorem ggX5_deliver_X5_askSender : GoodIn wsX5_deliver wsX5_askSender := goodIn_r _ [26, 2, 27, 10, 11, 5, 12, 32, 33, 34, 35, 36, 37] (by decide +kernel) (by decide +kernel)
set_option maxRecDepth 20000 in
theorem gX5_deliver_X5_askSender : GoodIn wsX5_deliver (wsV RX5 155 RX5 yX5_askSender wsX5_askSender) := goodIn_app (goodIn_of _ (by decide +kernel)) ggX5_deliver_X5_askSender
set_option maxRecDepth 20000 in
theorem ggX5_deliver_X5_tellReceiver : GoodIn wsX5_deliver wsX5_tellReceiver := goodIn_r _ [31, 2, 10, 11, 5, 12, 32, 33, 34, 35, 36, 37] (by decide +kernel) (by decide +kernel)
set_option maxRecDepth 20000 in
theorem gX5_deliver_X5_tellReceiver : GoodIn wsX5_deliver (wsV RX5 158 RX5 yX5_tellReceiver wsX5_tellReceiver) := goodIn_app (goodIn_of _ (by decide +kernel)) ggX5_deliver_X5_tellReceiver
theorem dX5_deliver_0 : decode cX5_deliver 0 = .ok (.aload_n 0, 1) := by decide +kernel
theorem dX5_deliver_1 : decode cX5_deliver 1 = .ok (.iload_n 1, 1) := by decide +kernel
theorem dX5_deliver_2 : decode cX5_deliver 2 = .ok (.invokestatic 56, 3) := by decide +kernel
theorem dX5_deliver_5 : decode cX5_deliver 5 = .ok (.ifCond .eq 21, 3) := by decide +kernel
theorem dX5_deliver_8 : decode cX5_deliver 8 = .ok (.iload_n 2, 1) := by decide +kernel
theorem dX5_deliver_9 : decode cX5_deliver 9 = .ok (.i2l, 1) := by decide +kernel
theorem dX5_deliver_10 : decode cX5_deliver 10 = .ok (.lconst 0, 1) := by decide +kernel
theorem dX5_deliver_11 : decode cX5_deliver 11 = .ok (.lconst 1, 1) := by decide +kernel
theorem dX5_deliver_12 : decode cX5_deliver 12 = .ok (.invokestatic 39, 3) := by decide +kernel
theorem dX5_deliver_15 : decode cX5_deliver 15 = .ok (.ifCond .eq 7, 3) := by decide +kernel
theorem dX5_deliver_18 : decode cX5_deliver 18 = .ok (.iconst 0, 1) := by decide +kernel
theorem dX5_deliver_19 : decode cX5_deliver 19 = .ok (.goto 8, 3) := by decide +kernel
theorem dX5_deliver_22 : decode cX5_deliver 22 = .ok (.iconst 2, 1) := by decide +kernel
theorem dX5_deliver_23 : decode cX5_deliver 23 = .ok (.goto 4, 3) := by decide +kernel
theorem dX5_deliver_26 : decode cX5_deliver 26 = .ok (.iconst 1, 1) := by decide +kernel
theorem dX5_deliver_27 : decode cX5_deliver 27 = .ok (.putfield 33, 3) := by decide +kernel
theorem dX5_deliver_30 : decode cX5_deliver 30 = .ok (.aload_n 0, 1) := by decide +kernel
theorem dX5_deliver_31 : decode cX5_deliver 31 = .ok (.getfield 33, 3) := by decide +kernel
theorem dX5_deliver_34 : decode cX5_deliver 34 = .ok (.ifCond .le 5, 3) := by decide +kernel
theorem dX5_deliver_37 : decode cX5_deliver 37 = .ok (.iconst 0, 1) := by decide +kernel
theorem dX5_deliver_38 : decode cX5_deliver 38 = .ok (.ireturn, 1) := by decide +kernel
theorem dX5_deliver_39 : decode cX5_deliver 39 = .ok (.iload_n 1, 1) := by decide +kernel
theorem dX5_deliver_40 : decode cX5_deliver 40 = .ok (.iload_n 2, 1) := by decide +kernel
theorem dX5_deliver_41 : decode cX5_deliver 41 = .ok (.ifCond .ne 8, 3) := by decide +kernel
theorem dX5_deliver_44 : decode cX5_deliver 44 = .ok (.bipush 108, 2) := by decide +kernel
theorem dX5_deliver_46 : decode cX5_deliver 46 = .ok (.goto 5, 3) := by decide +kernel
theorem dX5_deliver_49 : decode cX5_deliver 49 = .ok (.bipush 112, 2) := by decide +kernel
theorem dX5_deliver_51 : decode cX5_deliver 51 = .ok (.invokestatic 19, 3) := by decide +kernel
theorem dX5_deliver_54 : decode cX5_deliver 54 = .ok (.istore 4, 2) := by decide +kernel
theorem dX5_deliver_56 : decode cX5_deliver 56 = .ok (.aload_n 0, 1) := by decide +kernel
theorem dX5_deliver_57 : decode cX5_deliver 57 = .ok (.getfield 7, 3) := by decide +kernel
theorem dX5_deliver_60 : decode cX5_deliver 60 = .ok (.iload 4, 2) := by decide +kernel
theorem dX5_deliver_62 : decode cX5_deliver 62 = .ok (.laload, 1) := by decide +kernel
theorem dX5_deliver_63 : decode cX5_deliver 63 = .ok (.lconst 0, 1) := by decide +kernel
theorem dX5_deliver_64 : decode cX5_deliver 64 = .ok (.lcmp, 1) := by decide +kernel
theorem dX5_deliver_65 : decode cX5_deliver 65 = .ok (.ifCond .ne 9, 3) := by decide +kernel
theorem dX5_deliver_68 : decode cX5_deliver 68 = .ok (.aload_n 0, 1) := by decide +kernel
theorem dX5_deliver_69 : decode cX5_deliver 69 = .ok (.iconst 3, 1) := by decide +kernel
theorem dX5_deliver_70 : decode cX5_deliver 70 = .ok (.invokevirtual 46, 3) := by decide +kernel
theorem dX5_deliver_73 : decode cX5_deliver 73 = .ok (.ireturn, 1) := by decide +kernel
theorem dX5_deliver_74 : decode cX5_deliver 74 = .ok (.aload_n 0, 1) := by decide +kernel
theorem dX5_deliver_75 : decode cX5_deliver 75 = .ok (.invokevirtual 53, 3) := by decide +kernel
theorem dX5_deliver_78 : decode cX5_deliver 78 = .ok (.aload_n 0, 1) := by decide +kernel
theorem dX5_deliver_79 : decode cX5_deliver 79 = .ok (.getfield 7, 3) := by decide +kernel
theorem dX5_deliver_82 : decode cX5_deliver 82 = .ok (.iload 4, 2) := by decide +kernel
theorem dX5_deliver_84 : decode cX5_deliver 84 = .ok (.lconst 0, 1) := by decide +kernel
theorem dX5_deliver_85 : decode cX5_deliver 85 = .ok (.lastore, 1) := by decide +kernel
theorem dX5_deliver_86 : decode cX5_deliver 86 = .ok (.iload_n 3, 1) := by decide +kernel
theorem dX5_deliver_87 : decode cX5_deliver 87 = .ok (.ifCond .eq 7, 3) := by decide +kernel
theorem dX5_deliver_90 : decode cX5_deliver 90 = .ok (.iconst (-1), 1) := by decide +kernel
theorem dX5_deliver_91 : decode cX5_deliver 91 = .ok (.goto 20, 3) := by decide +kernel
theorem dX5_deliver_94 : decode cX5_deliver 94 = .ok (.iload_n 2, 1) := by decide +kernel
theorem dX5_deliver_95 : decode cX5_deliver 95 = .ok (.ifCond .ne 11, 3) := by decide +kernel
theorem dX5_deliver_98 : decode cX5_deliver 98 = .ok (.aload_n 0, 1) := by decide +kernel
theorem dX5_deliver_99 : decode cX5_deliver 99 = .ok (.iload_n 1, 1) := by decide +kernel
theorem dX5_deliver_100 : decode cX5_deliver 100 = .ok (.invokevirtual 155, 3) := by decide +kernel
theorem dX5_deliver_103 : decode cX5_deliver 103 = .ok (.goto 8, 3) := by decide +kernel
theorem dX5_deliver_106 : decode cX5_deliver 106 = .ok (.aload_n 0, 1) := by decide +kernel
theorem dX5_deliver_107 : decode cX5_deliver 107 = .ok (.iload_n 1, 1) := by decide +kernel
theorem dX5_deliver_108 : decode cX5_deliver 108 = .ok (.invokevirtual 158, 3) := by decide +kernel
theorem dX5_deliver_111 : decode cX5_deliver 111 = .ok (.ireturn, 1) := by decide +kernel
set_option maxRecDepth 20000 in
theorem ggX5_frame_X5_at : GoodIn wsX5_frame wsX5_at := goodIn_r _ [6] (by decide +kernel) (by decide +kernel)
set_option maxRecDepth 20000 in
theorem gX5_frame_X5_at : GoodIn wsX5_frame (va_wsS RX5 19 yX5_at wsX5_at) := goodIn_app (goodIn_of _ (by decide +kernel)) ggX5_frame_X5_at
set_option maxRecDepth 20000 in
theorem ggX5_frame_X5_feed : GoodIn wsX5_frame wsX5_feed := goodIn_r _ [10, 1, 11, 12, 13, 14, 5, 15, 3, 4, 6, 16, 17, 18, 19, 20, 21, 22, 23, 24, 25, 26, 27, 28, 29] (by decide +kernel) (by decide +kernel)
set_option maxRecDepth 20000 in
theorem gX5_frame_X5_feed : GoodIn wsX5_frame (wsV RX5 96 RX5 yX5_feed wsX5_feed) := goodIn_app (goodIn_of _ (by decide +kernel)) ggX5_frame_X5_feed
theorem dX5_frame_0 : decode cX5_frame 0 = .ok (.aload_n 0, 1) := by decide +kernel
theorem dX5_frame_1 : decode cX5_frame 1 = .ok (.getfield 7, 3) := by decide +kernel
theorem dX5_frame_4 : decode cX5_frame 4 = .ok (.iload_n 1, 1) := by decide +kernel
theorem dX5_frame_5 : decode cX5_frame 5 = .ok (.bipush 103, 2) := by decide +kernel
theorem dX5_frame_7 : decode cX5_frame 7 = .ok (.invokestatic 19, 3) := by decide +kernel
theorem dX5_frame_10 : decode cX5_frame 10 = .ok (.laload, 1) := by decide +kernel
theorem dX5_frame_11 : decode cX5_frame 11 = .ok (.lconst 1, 1) := by decide +kernel
theorem dX5_frame_12 : decode cX5_frame 12 = .ok (.lcmp, 1) := by decide +kernel
theorem dX5_frame_13 : decode cX5_frame 13 = .ok (.ifCond .ne 80, 3) := by decide +kernel
theorem dX5_frame_16 : decode cX5_frame 16 = .ok (.aload_n 0, 1) := by decide +kernel
theorem dX5_frame_17 : decode cX5_frame 17 = .ok (.getfield 7, 3) := by decide +kernel
theorem dX5_frame_20 : decode cX5_frame 20 = .ok (.iload_n 1, 1) := by decide +kernel
theorem dX5_frame_21 : decode cX5_frame 21 = .ok (.bipush 107, 2) := by decide +kernel
theorem dX5_frame_23 : decode cX5_frame 23 = .ok (.invokestatic 19, 3) := by decide +kernel
theorem dX5_frame_26 : decode cX5_frame 26 = .ok (.laload, 1) := by decide +kernel
theorem dX5_frame_27 : decode cX5_frame 27 = .ok (.aload_n 0, 1) := by decide +kernel
theorem dX5_frame_28 : decode cX5_frame 28 = .ok (.getfield 7, 3) := by decide +kernel
theorem dX5_frame_31 : decode cX5_frame 31 = .ok (.iconst 0, 1) := by decide +kernel
theorem dX5_frame_32 : decode cX5_frame 32 = .ok (.laload, 1) := by decide +kernel
theorem dX5_frame_33 : decode cX5_frame 33 = .ok (.lcmp, 1) := by decide +kernel
theorem dX5_frame_34 : decode cX5_frame 34 = .ok (.ifCond .ne 59, 3) := by decide +kernel
theorem dX5_frame_37 : decode cX5_frame 37 = .ok (.aload_n 0, 1) := by decide +kernel
theorem dX5_frame_38 : decode cX5_frame 38 = .ok (.getfield 7, 3) := by decide +kernel
theorem dX5_frame_41 : decode cX5_frame 41 = .ok (.iload_n 1, 1) := by decide +kernel
theorem dX5_frame_42 : decode cX5_frame 42 = .ok (.bipush 65, 2) := by decide +kernel
theorem dX5_frame_44 : decode cX5_frame 44 = .ok (.invokestatic 19, 3) := by decide +kernel
theorem dX5_frame_47 : decode cX5_frame 47 = .ok (.aload_n 0, 1) := by decide +kernel
theorem dX5_frame_48 : decode cX5_frame 48 = .ok (.getfield 7, 3) := by decide +kernel
theorem dX5_frame_51 : decode cX5_frame 51 = .ok (.iload_n 1, 1) := by decide +kernel
theorem dX5_frame_52 : decode cX5_frame 52 = .ok (.bipush 105, 2) := by decide +kernel
theorem dX5_frame_54 : decode cX5_frame 54 = .ok (.invokestatic 19, 3) := by decide +kernel
theorem dX5_frame_57 : decode cX5_frame 57 = .ok (.laload, 1) := by decide +kernel
theorem dX5_frame_58 : decode cX5_frame 58 = .ok (.l2i, 1) := by decide +kernel
theorem dX5_frame_59 : decode cX5_frame 59 = .ok (.iadd, 1) := by decide +kernel
theorem dX5_frame_60 : decode cX5_frame 60 = .ok (.dup2, 1) := by decide +kernel
theorem dX5_frame_61 : decode cX5_frame 61 = .ok (.laload, 1) := by decide +kernel
theorem dX5_frame_62 : decode cX5_frame 62 = .ok (.lconst 1, 1) := by decide +kernel
theorem dX5_frame_63 : decode cX5_frame 63 = .ok (.lsub, 1) := by decide +kernel
theorem dX5_frame_64 : decode cX5_frame 64 = .ok (.lastore, 1) := by decide +kernel
theorem dX5_frame_65 : decode cX5_frame 65 = .ok (.aload_n 0, 1) := by decide +kernel
theorem dX5_frame_66 : decode cX5_frame 66 = .ok (.getfield 7, 3) := by decide +kernel
theorem dX5_frame_69 : decode cX5_frame 69 = .ok (.iload_n 1, 1) := by decide +kernel
theorem dX5_frame_70 : decode cX5_frame 70 = .ok (.bipush 65, 2) := by decide +kernel
theorem dX5_frame_72 : decode cX5_frame 72 = .ok (.invokestatic 19, 3) := by decide +kernel
theorem dX5_frame_75 : decode cX5_frame 75 = .ok (.aload_n 0, 1) := by decide +kernel
theorem dX5_frame_76 : decode cX5_frame 76 = .ok (.getfield 7, 3) := by decide +kernel
theorem dX5_frame_79 : decode cX5_frame 79 = .ok (.iload_n 1, 1) := by decide +kernel
theorem dX5_frame_80 : decode cX5_frame 80 = .ok (.bipush 106, 2) := by decide +kernel
theorem dX5_frame_82 : decode cX5_frame 82 = .ok (.invokestatic 19, 3) := by decide +kernel
theorem dX5_frame_85 : decode cX5_frame 85 = .ok (.laload, 1) := by decide +kernel
theorem dX5_frame_86 : decode cX5_frame 86 = .ok (.l2i, 1) := by decide +kernel
theorem dX5_frame_87 : decode cX5_frame 87 = .ok (.iadd, 1) := by decide +kernel
theorem dX5_frame_88 : decode cX5_frame 88 = .ok (.dup2, 1) := by decide +kernel
theorem dX5_frame_89 : decode cX5_frame 89 = .ok (.laload, 1) := by decide +kernel
theorem dX5_frame_90 : decode cX5_frame 90 = .ok (.lconst 1, 1) := by decide +kernel
theorem dX5_frame_91 : decode cX5_frame 91 = .ok (.ladd, 1) := by decide +kernel
theorem dX5_frame_92 : decode cX5_frame 92 = .ok (.lastore, 1) := by decide +kernel
theorem dX5_frame_93 : decode cX5_frame 93 = .ok (.aload_n 0, 1) := by decide +kernel
theorem dX5_frame_94 : decode cX5_frame 94 = .ok (.getfield 7, 3) := by decide +kernel
theorem dX5_frame_97 : decode cX5_frame 97 = .ok (.iload_n 1, 1) := by decide +kernel
theorem dX5_frame_98 : decode cX5_frame 98 = .ok (.bipush 97, 2) := by decide +kernel
theorem dX5_frame_100 : decode cX5_frame 100 = .ok (.invokestatic 19, 3) := by decide +kernel
theorem dX5_frame_103 : decode cX5_frame 103 = .ok (.laload, 1) := by decide +kernel
theorem dX5_frame_104 : decode cX5_frame 104 = .ok (.lconst 1, 1) := by decide +kernel
theorem dX5_frame_105 : decode cX5_frame 105 = .ok (.lcmp, 1) := by decide +kernel
theorem dX5_frame_106 : decode cX5_frame 106 = .ok (.ifCond .ne 46, 3) := by decide +kernel
theorem dX5_frame_109 : decode cX5_frame 109 = .ok (.aload_n 0, 1) := by decide +kernel
theorem dX5_frame_110 : decode cX5_frame 110 = .ok (.getfield 7, 3) := by decide +kernel
theorem dX5_frame_113 : decode cX5_frame 113 = .ok (.iload_n 1, 1) := by decide +kernel
theorem dX5_frame_114 : decode cX5_frame 114 = .ok (.bipush 101, 2) := by decide +kernel
theorem dX5_frame_116 : decode cX5_frame 116 = .ok (.invokestatic 19, 3) := by decide +kernel
theorem dX5_frame_119 : decode cX5_frame 119 = .ok (.laload, 1) := by decide +kernel
theorem dX5_frame_120 : decode cX5_frame 120 = .ok (.ldc2_w 94, 3) := by decide +kernel
theorem dX5_frame_123 : decode cX5_frame 123 = .ok (.lcmp, 1) := by decide +kernel
theorem dX5_frame_124 : decode cX5_frame 124 = .ok (.ifCond .eq 28, 3) := by decide +kernel
theorem dX5_frame_127 : decode cX5_frame 127 = .ok (.aload_n 0, 1) := by decide +kernel
theorem dX5_frame_128 : decode cX5_frame 128 = .ok (.getfield 7, 3) := by decide +kernel
theorem dX5_frame_131 : decode cX5_frame 131 = .ok (.iload_n 1, 1) := by decide +kernel
theorem dX5_frame_132 : decode cX5_frame 132 = .ok (.bipush 101, 2) := by decide +kernel
theorem dX5_frame_134 : decode cX5_frame 134 = .ok (.invokestatic 19, 3) := by decide +kernel
theorem dX5_frame_137 : decode cX5_frame 137 = .ok (.laload, 1) := by decide +kernel
theorem dX5_frame_138 : decode cX5_frame 138 = .ok (.aload_n 0, 1) := by decide +kernel
theorem dX5_frame_139 : decode cX5_frame 139 = .ok (.getfield 7, 3) := by decide +kernel
theorem dX5_frame_142 : decode cX5_frame 142 = .ok (.iconst 0, 1) := by decide +kernel
theorem dX5_frame_143 : decode cX5_frame 143 = .ok (.laload, 1) := by decide +kernel
theorem dX5_frame_144 : decode cX5_frame 144 = .ok (.lcmp, 1) := by decide +kernel
theorem dX5_frame_145 : decode cX5_frame 145 = .ok (.ifCond .gt 7, 3) := by decide +kernel
theorem dX5_frame_148 : decode cX5_frame 148 = .ok (.iconst 1, 1) := by decide +kernel
theorem dX5_frame_149 : decode cX5_frame 149 = .ok (.goto 4, 3) := by decide +kernel
theorem dX5_frame_152 : decode cX5_frame 152 = .ok (.iconst 0, 1) := by decide +kernel
theorem dX5_frame_153 : decode cX5_frame 153 = .ok (.istore_n 2, 1) := by decide +kernel
theorem dX5_frame_154 : decode cX5_frame 154 = .ok (.iload_n 2, 1) := by decide +kernel
theorem dX5_frame_155 : decode cX5_frame 155 = .ok (.ifCond .eq 104, 3) := by decide +kernel
theorem dX5_frame_158 : decode cX5_frame 158 = .ok (.aload_n 0, 1) := by decide +kernel
theorem dX5_frame_159 : decode cX5_frame 159 = .ok (.getfield 7, 3) := by decide +kernel
theorem dX5_frame_162 : decode cX5_frame 162 = .ok (.iload_n 1, 1) := by decide +kernel
theorem dX5_frame_163 : decode cX5_frame 163 = .ok (.bipush 99, 2) := by decide +kernel
theorem dX5_frame_165 : decode cX5_frame 165 = .ok (.invokestatic 19, 3) := by decide +kernel
theorem dX5_frame_168 : decode cX5_frame 168 = .ok (.laload, 1) := by decide +kernel
theorem dX5_frame_169 : decode cX5_frame 169 = .ok (.l2i, 1) := by decide +kernel
theorem dX5_frame_170 : decode cX5_frame 170 = .ok (.istore_n 3, 1) := by decide +kernel
theorem dX5_frame_171 : decode cX5_frame 171 = .ok (.aload_n 0, 1) := by decide +kernel
theorem dX5_frame_172 : decode cX5_frame 172 = .ok (.getfield 7, 3) := by decide +kernel
theorem dX5_frame_175 : decode cX5_frame 175 = .ok (.iload_n 1, 1) := by decide +kernel
theorem dX5_frame_176 : decode cX5_frame 176 = .ok (.bipush 100, 2) := by decide +kernel
theorem dX5_frame_178 : decode cX5_frame 178 = .ok (.invokestatic 19, 3) := by decide +kernel
theorem dX5_frame_181 : decode cX5_frame 181 = .ok (.laload, 1) := by decide +kernel
theorem dX5_frame_182 : decode cX5_frame 182 = .ok (.l2i, 1) := by decide +kernel
theorem dX5_frame_183 : decode cX5_frame 183 = .ok (.istore 4, 2) := by decide +kernel
theorem dX5_frame_185 : decode cX5_frame 185 = .ok (.aload_n 0, 1) := by decide +kernel
theorem dX5_frame_186 : decode cX5_frame 186 = .ok (.getfield 7, 3) := by decide +kernel
theorem dX5_frame_189 : decode cX5_frame 189 = .ok (.iload_n 1, 1) := by decide +kernel
theorem dX5_frame_190 : decode cX5_frame 190 = .ok (.bipush 49, 2) := by decide +kernel
theorem dX5_frame_192 : decode cX5_frame 192 = .ok (.iload_n 3, 1) := by decide +kernel
theorem dX5_frame_193 : decode cX5_frame 193 = .ok (.iadd, 1) := by decide +kernel
theorem dX5_frame_194 : decode cX5_frame 194 = .ok (.invokestatic 19, 3) := by decide +kernel
theorem dX5_frame_197 : decode cX5_frame 197 = .ok (.dup2, 1) := by decide +kernel
theorem dX5_frame_198 : decode cX5_frame 198 = .ok (.laload, 1) := by decide +kernel
theorem dX5_frame_199 : decode cX5_frame 199 = .ok (.lconst 1, 1) := by decide +kernel
theorem dX5_frame_200 : decode cX5_frame 200 = .ok (.lsub, 1) := by decide +kernel
theorem dX5_frame_201 : decode cX5_frame 201 = .ok (.lastore, 1) := by decide +kernel
theorem dX5_frame_202 : decode cX5_frame 202 = .ok (.aload_n 0, 1) := by decide +kernel
theorem dX5_frame_203 : decode cX5_frame 203 = .ok (.getfield 7, 3) := by decide +kernel
theorem dX5_frame_206 : decode cX5_frame 206 = .ok (.iload_n 1, 1) := by decide +kernel
theorem dX5_frame_207 : decode cX5_frame 207 = .ok (.bipush 49, 2) := by decide +kernel
theorem dX5_frame_209 : decode cX5_frame 209 = .ok (.iload 4, 2) := by decide +kernel
theorem dX5_frame_211 : decode cX5_frame 211 = .ok (.iadd, 1) := by decide +kernel
theorem dX5_frame_212 : decode cX5_frame 212 = .ok (.invokestatic 19, 3) := by decide +kernel
theorem dX5_frame_215 : decode cX5_frame 215 = .ok (.dup2, 1) := by decide +kernel
theorem dX5_frame_216 : decode cX5_frame 216 = .ok (.laload, 1) := by decide +kernel
theorem dX5_frame_217 : decode cX5_frame 217 = .ok (.lconst 1, 1) := by decide +kernel
theorem dX5_frame_218 : decode cX5_frame 218 = .ok (.ladd, 1) := by decide +kernel
theorem dX5_frame_219 : decode cX5_frame 219 = .ok (.lastore, 1) := by decide +kernel
theorem dX5_frame_220 : decode cX5_frame 220 = .ok (.aload_n 0, 1) := by decide +kernel
theorem dX5_frame_221 : decode cX5_frame 221 = .ok (.iload_n 1, 1) := by decide +kernel
theorem dX5_frame_222 : decode cX5_frame 222 = .ok (.iload_n 3, 1) := by decide +kernel
theorem dX5_frame_223 : decode cX5_frame 223 = .ok (.invokevirtual 96, 3) := by decide +kernel
theorem dX5_frame_226 : decode cX5_frame 226 = .ok (.aload_n 0, 1) := by decide +kernel
theorem dX5_frame_227 : decode cX5_frame 227 = .ok (.iload_n 1, 1) := by decide +kernel
theorem dX5_frame_228 : decode cX5_frame 228 = .ok (.iload 4, 2) := by decide +kernel
theorem dX5_frame_230 : decode cX5_frame 230 = .ok (.invokevirtual 96, 3) := by decide +kernel
theorem dX5_frame_233 : decode cX5_frame 233 = .ok (.aload_n 0, 1) := by decide +kernel
theorem dX5_frame_234 : decode cX5_frame 234 = .ok (.getfield 7, 3) := by decide +kernel
theorem dX5_frame_237 : decode cX5_frame 237 = .ok (.iload_n 1, 1) := by decide +kernel
theorem dX5_frame_238 : decode cX5_frame 238 = .ok (.bipush 97, 2) := by decide +kernel
theorem dX5_frame_240 : decode cX5_frame 240 = .ok (.invokestatic 19, 3) := by decide +kernel
theorem dX5_frame_243 : decode cX5_frame 243 = .ok (.lconst 0, 1) := by decide +kernel
theorem dX5_frame_244 : decode cX5_frame 244 = .ok (.lastore, 1) := by decide +kernel
theorem dX5_frame_245 : decode cX5_frame 245 = .ok (.aload_n 0, 1) := by decide +kernel
theorem dX5_frame_246 : decode cX5_frame 246 = .ok (.getfield 7, 3) := by decide +kernel
theorem dX5_frame_249 : decode cX5_frame 249 = .ok (.iload_n 1, 1) := by decide +kernel
theorem dX5_frame_250 : decode cX5_frame 250 = .ok (.bipush 101, 2) := by decide +kernel
theorem dX5_frame_252 : decode cX5_frame 252 = .ok (.invokestatic 19, 3) := by decide +kernel
theorem dX5_frame_255 : decode cX5_frame 255 = .ok (.ldc2_w 94, 3) := by decide +kernel
theorem dX5_frame_258 : decode cX5_frame 258 = .ok (.lastore, 1) := by decide +kernel
theorem dX5_frame_259 : decode cX5_frame 259 = .ok (.return_, 1) := by decide +kernel
set_option maxRecDepth 20000 in
theorem ggX5_run_X5_in : GoodIn wsX5_run wsX5_in := goodIn_r _ [7] (by decide +kernel) (by decide +kernel)
set_option maxRecDepth 20000 in
theorem gX5_run_X5_in : GoodIn wsX5_run (va_wsS RX5 39 yX5_in wsX5_in) := goodIn_app (goodIn_of _ (by decide +kernel)) ggX5_run_X5_in
set_option maxRecDepth 20000 in
theorem ggX5_run_X5_save : GoodIn wsX5_run wsX5_save := goodIn_r _ [11, 12, 13, 3, 42, 43, 44, 45, 46, 47] (by decide +kernel) (by decide +kernel)
set_option maxRecDepth 20000 in
theorem gX5_run_X5_save : GoodIn wsX5_run (wsV RX5 53 RX5 yX5_save wsX5_save) := goodIn_app (goodIn_of _ (by decide +kernel)) ggX5_run_X5_save
set_option maxRecDepth 20000 in
theorem ggX5_run_X5_frame : GoodIn wsX5_run wsX5_frame := goodIn_r _ [17, 3, 18, 19, 20, 6, 21, 22, 23, 24, 25, 26, 27, 28, 29, 30, 31, 32, 33, 34, 1, 35, 36, 37, 42, 43, 44, 45, 46, 47] (by decide +kernel) (by decide +kernel)
set_option maxRecDepth 20000 in
theorem gX5_run_X5_frame : GoodIn wsX5_run (wsV RX5 161 RX5 yX5_frame wsX5_frame) := goodIn_app (goodIn_of _ (by decide +kernel)) ggX5_run_X5_frame
set_option maxRecDepth 20000 in
theorem ggX5_run_X5_at : GoodIn wsX5_run wsX5_at := goodIn_r _ [21] (by decide +kernel) (by decide +kernel)
set_option maxRecDepth 20000 in
theorem gX5_run_X5_at : GoodIn wsX5_run (va_wsS RX5 19 yX5_at wsX5_at) := goodIn_app (goodIn_of _ (by decide +kernel)) ggX5_run_X5_at
set_option maxRecDepth 20000 in
theorem ggX5_run_X5_inStepNow : GoodIn wsX5_run wsX5_inStepNow := goodIn_r _ [41, 3, 19, 20, 6, 21, 42, 43, 44, 45, 46, 47] (by decide +kernel) (by decide +kernel)
set_option maxRecDepth 20000 in
theorem gX5_run_X5_inStepNow : GoodIn wsX5_run (wsV RX5 147 RX5 yX5_inStepNow wsX5_inStepNow) := goodIn_app (goodIn_of _ (by decide +kernel)) ggX5_run_X5_inStepNow
theorem dX5_run_0 : decode cX5_run 0 = .ok (.aload_n 0, 1) := by decide +kernel
theorem dX5_run_1 : decode cX5_run 1 = .ok (.iload_n 1, 1) := by decide +kernel
theorem dX5_run_2 : decode cX5_run 2 = .ok (.i2l, 1) := by decide +kernel
theorem dX5_run_3 : decode cX5_run 3 = .ok (.lconst 0, 1) := by decide +kernel
theorem dX5_run_4 : decode cX5_run 4 = .ok (.ldc2_w 68, 3) := by decide +kernel
theorem dX5_run_7 : decode cX5_run 7 = .ok (.invokestatic 39, 3) := by decide +kernel
theorem dX5_run_10 : decode cX5_run 10 = .ok (.ifCond .eq 7, 3) := by decide +kernel
theorem dX5_run_13 : decode cX5_run 13 = .ok (.iconst 0, 1) := by decide +kernel
theorem dX5_run_14 : decode cX5_run 14 = .ok (.goto 4, 3) := by decide +kernel
theorem dX5_run_17 : decode cX5_run 17 = .ok (.iconst 1, 1) := by decide +kernel
theorem dX5_run_18 : decode cX5_run 18 = .ok (.putfield 33, 3) := by decide +kernel
theorem dX5_run_21 : decode cX5_run 21 = .ok (.aload_n 0, 1) := by decide +kernel
theorem dX5_run_22 : decode cX5_run 22 = .ok (.getfield 33, 3) := by decide +kernel
theorem dX5_run_25 : decode cX5_run 25 = .ok (.ifCond .le 5, 3) := by decide +kernel
theorem dX5_run_28 : decode cX5_run 28 = .ok (.iconst 0, 1) := by decide +kernel
theorem dX5_run_29 : decode cX5_run 29 = .ok (.ireturn, 1) := by decide +kernel
theorem dX5_run_30 : decode cX5_run 30 = .ok (.aload_n 0, 1) := by decide +kernel
theorem dX5_run_31 : decode cX5_run 31 = .ok (.invokevirtual 53, 3) := by decide +kernel
theorem dX5_run_34 : decode cX5_run 34 = .ok (.iconst 0, 1) := by decide +kernel
theorem dX5_run_35 : decode cX5_run 35 = .ok (.istore_n 2, 1) := by decide +kernel
theorem dX5_run_36 : decode cX5_run 36 = .ok (.iload_n 2, 1) := by decide +kernel
theorem dX5_run_37 : decode cX5_run 37 = .ok (.iload_n 1, 1) := by decide +kernel
theorem dX5_run_38 : decode cX5_run 38 = .ok (.if_icmp .ge 83, 3) := by decide +kernel
theorem dX5_run_41 : decode cX5_run 41 = .ok (.aload_n 0, 1) := by decide +kernel
theorem dX5_run_42 : decode cX5_run 42 = .ok (.getfield 7, 3) := by decide +kernel
theorem dX5_run_45 : decode cX5_run 45 = .ok (.iconst 0, 1) := by decide +kernel
theorem dX5_run_46 : decode cX5_run 46 = .ok (.dup2, 1) := by decide +kernel
theorem dX5_run_47 : decode cX5_run 47 = .ok (.laload, 1) := by decide +kernel
theorem dX5_run_48 : decode cX5_run 48 = .ok (.lconst 1, 1) := by decide +kernel
theorem dX5_run_49 : decode cX5_run 49 = .ok (.ladd, 1) := by decide +kernel
theorem dX5_run_50 : decode cX5_run 50 = .ok (.lastore, 1) := by decide +kernel
theorem dX5_run_51 : decode cX5_run 51 = .ok (.aload_n 0, 1) := by decide +kernel
theorem dX5_run_52 : decode cX5_run 52 = .ok (.iconst 0, 1) := by decide +kernel
theorem dX5_run_53 : decode cX5_run 53 = .ok (.invokevirtual 161, 3) := by decide +kernel
theorem dX5_run_56 : decode cX5_run 56 = .ok (.aload_n 0, 1) := by decide +kernel
theorem dX5_run_57 : decode cX5_run 57 = .ok (.iconst 1, 1) := by decide +kernel
theorem dX5_run_58 : decode cX5_run 58 = .ok (.invokevirtual 161, 3) := by decide +kernel
theorem dX5_run_61 : decode cX5_run 61 = .ok (.aload_n 0, 1) := by decide +kernel
theorem dX5_run_62 : decode cX5_run 62 = .ok (.getfield 7, 3) := by decide +kernel
theorem dX5_run_65 : decode cX5_run 65 = .ok (.iconst 0, 1) := by decide +kernel
theorem dX5_run_66 : decode cX5_run 66 = .ok (.bipush 115, 2) := by decide +kernel
theorem dX5_run_68 : decode cX5_run 68 = .ok (.invokestatic 19, 3) := by decide +kernel
theorem dX5_run_71 : decode cX5_run 71 = .ok (.dup2, 1) := by decide +kernel
theorem dX5_run_72 : decode cX5_run 72 = .ok (.laload, 1) := by decide +kernel
theorem dX5_run_73 : decode cX5_run 73 = .ok (.aload_n 0, 1) := by decide +kernel
theorem dX5_run_74 : decode cX5_run 74 = .ok (.iconst 0, 1) := by decide +kernel
theorem dX5_run_75 : decode cX5_run 75 = .ok (.invokevirtual 147, 3) := by decide +kernel
theorem dX5_run_78 : decode cX5_run 78 = .ok (.ifCond .eq 7, 3) := by decide +kernel
theorem dX5_run_81 : decode cX5_run 81 = .ok (.lconst 0, 1) := by decide +kernel
theorem dX5_run_82 : decode cX5_run 82 = .ok (.goto 4, 3) := by decide +kernel
theorem dX5_run_85 : decode cX5_run 85 = .ok (.lconst 1, 1) := by decide +kernel
theorem dX5_run_86 : decode cX5_run 86 = .ok (.ladd, 1) := by decide +kernel
theorem dX5_run_87 : decode cX5_run 87 = .ok (.lastore, 1) := by decide +kernel
theorem dX5_run_88 : decode cX5_run 88 = .ok (.aload_n 0, 1) := by decide +kernel
theorem dX5_run_89 : decode cX5_run 89 = .ok (.getfield 7, 3) := by decide +kernel
theorem dX5_run_92 : decode cX5_run 92 = .ok (.iconst 1, 1) := by decide +kernel
theorem dX5_run_93 : decode cX5_run 93 = .ok (.bipush 115, 2) := by decide +kernel
theorem dX5_run_95 : decode cX5_run 95 = .ok (.invokestatic 19, 3) := by decide +kernel
theorem dX5_run_98 : decode cX5_run 98 = .ok (.dup2, 1) := by decide +kernel
theorem dX5_run_99 : decode cX5_run 99 = .ok (.laload, 1) := by decide +kernel
theorem dX5_run_100 : decode cX5_run 100 = .ok (.aload_n 0, 1) := by decide +kernel
theorem dX5_run_101 : decode cX5_run 101 = .ok (.iconst 1, 1) := by decide +kernel
theorem dX5_run_102 : decode cX5_run 102 = .ok (.invokevirtual 147, 3) := by decide +kernel
theorem dX5_run_105 : decode cX5_run 105 = .ok (.ifCond .eq 7, 3) := by decide +kernel
theorem dX5_run_108 : decode cX5_run 108 = .ok (.lconst 0, 1) := by decide +kernel
theorem dX5_run_109 : decode cX5_run 109 = .ok (.goto 4, 3) := by decide +kernel
theorem dX5_run_112 : decode cX5_run 112 = .ok (.lconst 1, 1) := by decide +kernel
theorem dX5_run_113 : decode cX5_run 113 = .ok (.ladd, 1) := by decide +kernel
theorem dX5_run_114 : decode cX5_run 114 = .ok (.lastore, 1) := by decide +kernel
theorem dX5_run_115 : decode cX5_run 115 = .ok (.iinc 2 1, 3) := by decide +kernel
theorem dX5_run_118 : decode cX5_run 118 = .ok (.goto (-82), 3) := by decide +kernel
theorem dX5_run_121 : decode cX5_run 121 = .ok (.aload_n 0, 1) := by decide +kernel
theorem dX5_run_122 : decode cX5_run 122 = .ok (.getfield 7, 3) := by decide +kernel
theorem dX5_run_125 : decode cX5_run 125 = .ok (.iconst 0, 1) := by decide +kernel
theorem dX5_run_126 : decode cX5_run 126 = .ok (.laload, 1) := by decide +kernel
theorem dX5_run_127 : decode cX5_run 127 = .ok (.l2i, 1) := by decide +kernel
theorem dX5_run_128 : decode cX5_run 128 = .ok (.ireturn, 1) := by decide +kernel
set_option maxRecDepth 20000 in
theorem ggX5_inStep_X5_isPair : GoodIn wsX5_inStep wsX5_isPair := goodIn_r _ [5, 6, 7, 4, 8] (by decide +kernel) (by decide +kernel)
set_option maxRecDepth 20000 in
theorem gX5_inStep_X5_isPair : GoodIn wsX5_inStep (va_wsS RX5 56 yX5_isPair wsX5_isPair) := goodIn_app (goodIn_of _ (by decide +kernel)) ggX5_inStep_X5_isPair
set_option maxRecDepth 20000 in
theorem ggX5_inStep_X5_inStepNow : GoodIn wsX5_inStep wsX5_inStepNow := goodIn_r _ [12, 13, 14, 15, 4, 16, 17, 18, 19, 20, 21, 22] (by decide +kernel) (by decide +kernel)
set_option maxRecDepth 20000 in
theorem gX5_inStep_X5_inStepNow : GoodIn wsX5_inStep (wsV RX5 147 RX5 yX5_inStepNow wsX5_inStepNow) := goodIn_app (goodIn_of _ (by decide +kernel)) ggX5_inStep_X5_inStepNow
theorem dX5_inStep_0 : decode cX5_inStep 0 = .ok (.aload_n 0, 1) := by decide +kernel
theorem dX5_inStep_1 : decode cX5_inStep 1 = .ok (.iload_n 1, 1) := by decide +kernel
theorem dX5_inStep_2 : decode cX5_inStep 2 = .ok (.invokestatic 56, 3) := by decide +kernel
theorem dX5_inStep_5 : decode cX5_inStep 5 = .ok (.ifCond .eq 7, 3) := by decide +kernel
theorem dX5_inStep_8 : decode cX5_inStep 8 = .ok (.iconst 0, 1) := by decide +kernel
theorem dX5_inStep_9 : decode cX5_inStep 9 = .ok (.goto 4, 3) := by decide +kernel
theorem dX5_inStep_12 : decode cX5_inStep 12 = .ok (.iconst 1, 1) := by decide +kernel
theorem dX5_inStep_13 : decode cX5_inStep 13 = .ok (.putfield 33, 3) := by decide +kernel
theorem dX5_inStep_16 : decode cX5_inStep 16 = .ok (.aload_n 0, 1) := by decide +kernel
theorem dX5_inStep_17 : decode cX5_inStep 17 = .ok (.getfield 33, 3) := by decide +kernel
theorem dX5_inStep_20 : decode cX5_inStep 20 = .ok (.ifCond .ne 15, 3) := by decide +kernel
theorem dX5_inStep_23 : decode cX5_inStep 23 = .ok (.aload_n 0, 1) := by decide +kernel
theorem dX5_inStep_24 : decode cX5_inStep 24 = .ok (.iload_n 1, 1) := by decide +kernel
theorem dX5_inStep_25 : decode cX5_inStep 25 = .ok (.invokevirtual 147, 3) := by decide +kernel
theorem dX5_inStep_28 : decode cX5_inStep 28 = .ok (.ifCond .eq 7, 3) := by decide +kernel
theorem dX5_inStep_31 : decode cX5_inStep 31 = .ok (.iconst 1, 1) := by decide +kernel
theorem dX5_inStep_32 : decode cX5_inStep 32 = .ok (.goto 4, 3) := by decide +kernel
theorem dX5_inStep_35 : decode cX5_inStep 35 = .ok (.iconst 0, 1) := by decide +kernel
theorem dX5_inStep_36 : decode cX5_inStep 36 = .ok (.ireturn, 1) := by decide +kernel
set_option maxRecDepth 20000 in
theorem ggX5_brokenFrames_X5_isPair : GoodIn wsX5_brokenFrames wsX5_isPair := goodIn_r _ [6, 7, 8, 5, 9] (by decide +kernel) (by decide +kernel)
set_option maxRecDepth 20000 in
theorem gX5_brokenFrames_X5_isPair : GoodIn wsX5_brokenFrames (va_wsS RX5 56 yX5_isPair wsX5_isPair) := goodIn_app (goodIn_of _ (by decide +kernel)) ggX5_brokenFrames_X5_isPair
set_option maxRecDepth 20000 in
theorem ggX5_brokenFrames_X5_at : GoodIn wsX5_brokenFrames wsX5_at := goodIn_r _ [12] (by decide +kernel) (by decide +kernel)
set_option maxRecDepth 20000 in
theorem gX5_brokenFrames_X5_at : GoodIn wsX5_brokenFrames (va_wsS RX5 19 yX5_at wsX5_at) := goodIn_app (goodIn_of _ (by decide +kernel)) ggX5_brokenFrames_X5_at
theorem dX5_brokenFrames_0 : decode cX5_brokenFrames 0 = .ok (.aload_n 0, 1) := by decide +kernel
theorem dX5_brokenFrames_1 : decode cX5_brokenFrames 1 = .ok (.iload_n 1, 1) := by decide +kernel
theorem dX5_brokenFrames_2 : decode cX5_brokenFrames 2 = .ok (.invokestatic 56, 3) := by decide +kernel
theorem dX5_brokenFrames_5 : decode cX5_brokenFrames 5 = .ok (.ifCond .eq 7, 3) := by decide +kernel
theorem dX5_brokenFrames_8 : decode cX5_brokenFrames 8 = .ok (.iconst 0, 1) := by decide +kernel
theorem dX5_brokenFrames_9 : decode cX5_brokenFrames 9 = .ok (.goto 4, 3) := by decide +kernel
theorem dX5_brokenFrames_12 : decode cX5_brokenFrames 12 = .ok (.iconst 1, 1) := by decide +kernel
theorem dX5_brokenFrames_13 : decode cX5_brokenFrames 13 = .ok (.putfield 33, 3) := by decide +kernel
theorem dX5_brokenFrames_16 : decode cX5_brokenFrames 16 = .ok (.aload_n 0, 1) := by decide +kernel
theorem dX5_brokenFrames_17 : decode cX5_brokenFrames 17 = .ok (.getfield 33, 3) := by decide +kernel
theorem dX5_brokenFrames_20 : decode cX5_brokenFrames 20 = .ok (.ifCond .le 7, 3) := by decide +kernel
theorem dX5_brokenFrames_23 : decode cX5_brokenFrames 23 = .ok (.iconst 0, 1) := by decide +kernel
theorem dX5_brokenFrames_24 : decode cX5_brokenFrames 24 = .ok (.goto 15, 3) := by decide +kernel
theorem dX5_brokenFrames_27 : decode cX5_brokenFrames 27 = .ok (.aload_n 0, 1) := by decide +kernel
theorem dX5_brokenFrames_28 : decode cX5_brokenFrames 28 = .ok (.getfield 7, 3) := by decide +kernel
theorem dX5_brokenFrames_31 : decode cX5_brokenFrames 31 = .ok (.iload_n 1, 1) := by decide +kernel
theorem dX5_brokenFrames_32 : decode cX5_brokenFrames 32 = .ok (.bipush 115, 2) := by decide +kernel
theorem dX5_brokenFrames_34 : decode cX5_brokenFrames 34 = .ok (.invokestatic 19, 3) := by decide +kernel
theorem dX5_brokenFrames_37 : decode cX5_brokenFrames 37 = .ok (.laload, 1) := by decide +kernel
theorem dX5_brokenFrames_38 : decode cX5_brokenFrames 38 = .ok (.l2i, 1) := by decide +kernel
theorem dX5_brokenFrames_39 : decode cX5_brokenFrames 39 = .ok (.ireturn, 1) := by decide +kernel
theorem dX5_mix_0 : decode cX5_mix 0 = .ok (.aload_n 0, 1) := by decide +kernel
theorem dX5_mix_1 : decode cX5_mix 1 = .ok (.ldc2_w 164, 3) := by decide +kernel
theorem dX5_mix_4 : decode cX5_mix 4 = .ok (.aload_n 0, 1) := by decide +kernel
theorem dX5_mix_5 : decode cX5_mix 5 = .ok (.getfield 166, 3) := by decide +kernel
theorem dX5_mix_8 : decode cX5_mix 8 = .ok (.lmul, 1) := by decide +kernel
theorem dX5_mix_9 : decode cX5_mix 9 = .ok (.lload_n 1, 1) := by decide +kernel
theorem dX5_mix_10 : decode cX5_mix 10 = .ok (.ladd, 1) := by decide +kernel
theorem dX5_mix_11 : decode cX5_mix 11 = .ok (.putfield 166, 3) := by decide +kernel
theorem dX5_mix_14 : decode cX5_mix 14 = .ok (.return_, 1) := by decide +kernel
set_option maxRecDepth 20000 in
theorem ggX5_mixPair_X5_at : GoodIn wsX5_mixPair wsX5_at := goodIn_r _ [5] (by decide +kernel) (by decide +kernel)
set_option maxRecDepth 20000 in
theorem gX5_mixPair_X5_at : GoodIn wsX5_mixPair (va_wsS RX5 19 yX5_at wsX5_at) := goodIn_app (goodIn_of _ (by decide +kernel)) ggX5_mixPair_X5_at
set_option maxRecDepth 20000 in
theorem ggX5_mixPair_X5_mix : GoodIn wsX5_mixPair wsX5_mix := goodIn_r _ [9, 10, 11, 55, 56, 57, 58, 59, 60] (by decide +kernel) (by decide +kernel)
set_option maxRecDepth 20000 in
theorem gX5_mixPair_X5_mix : GoodIn wsX5_mixPair (wsV RX5 170 RX5 yX5_mix wsX5_mix) := goodIn_app (goodIn_of _ (by decide +kernel)) ggX5_mixPair_X5_mix
set_option maxRecDepth 20000 in
theorem ggX5_mixPair_X5_marginOf : GoodIn wsX5_mixPair wsX5_marginOf := goodIn_r _ [15, 1, 16, 17, 2, 3, 4, 5, 18, 19, 20, 21, 22, 23, 24, 25, 26, 27, 28, 29, 55, 56, 57, 58, 59, 60] (by decide +kernel) (by decide +kernel)
set_option maxRecDepth 20000 in
theorem gX5_mixPair_X5_marginOf : GoodIn wsX5_mixPair (wsV RX5 139 RX5 yX5_marginOf wsX5_marginOf) := goodIn_app (goodIn_of _ (by decide +kernel)) ggX5_mixPair_X5_marginOf
set_option maxRecDepth 20000 in
theorem ggX5_mixPair_X5_efficient : GoodIn wsX5_mixPair wsX5_efficient := goodIn_r _ [33, 34, 35, 36, 4, 37, 1, 2, 3, 5, 38, 39, 40, 41, 42, 43, 44, 45, 46, 22, 23, 24, 25, 26, 47, 48, 49, 50, 51, 52, 53, 54, 55, 56, 57, 58, 59, 60] (by decide +kernel) (by decide +kernel)
set_option maxRecDepth 20000 in
theorem gX5_mixPair_X5_efficient : GoodIn wsX5_mixPair (wsV RX5 127 RX5 yX5_efficient wsX5_efficient) := goodIn_app (goodIn_of _ (by decide +kernel)) ggX5_mixPair_X5_efficient
theorem dX5_mixPair_0 : decode cX5_mixPair 0 = .ok (.aload_n 0, 1) := by decide +kernel
theorem dX5_mixPair_1 : decode cX5_mixPair 1 = .ok (.aload_n 0, 1) := by decide +kernel
theorem dX5_mixPair_2 : decode cX5_mixPair 2 = .ok (.getfield 7, 3) := by decide +kernel
theorem dX5_mixPair_5 : decode cX5_mixPair 5 = .ok (.iload_n 1, 1) := by decide +kernel
theorem dX5_mixPair_6 : decode cX5_mixPair 6 = .ok (.iconst 0, 1) := by decide +kernel
theorem dX5_mixPair_7 : decode cX5_mixPair 7 = .ok (.invokestatic 19, 3) := by decide +kernel
theorem dX5_mixPair_10 : decode cX5_mixPair 10 = .ok (.laload, 1) := by decide +kernel
theorem dX5_mixPair_11 : decode cX5_mixPair 11 = .ok (.invokevirtual 170, 3) := by decide +kernel
theorem dX5_mixPair_14 : decode cX5_mixPair 14 = .ok (.iconst 0, 1) := by decide +kernel
theorem dX5_mixPair_15 : decode cX5_mixPair 15 = .ok (.istore_n 2, 1) := by decide +kernel
theorem dX5_mixPair_16 : decode cX5_mixPair 16 = .ok (.iload_n 2, 1) := by decide +kernel
theorem dX5_mixPair_17 : decode cX5_mixPair 17 = .ok (.bipush 16, 2) := by decide +kernel
theorem dX5_mixPair_19 : decode cX5_mixPair 19 = .ok (.if_icmp .ge 49, 3) := by decide +kernel
theorem dX5_mixPair_22 : decode cX5_mixPair 22 = .ok (.iconst 1, 1) := by decide +kernel
theorem dX5_mixPair_23 : decode cX5_mixPair 23 = .ok (.istore_n 3, 1) := by decide +kernel
theorem dX5_mixPair_24 : decode cX5_mixPair 24 = .ok (.iload_n 3, 1) := by decide +kernel
theorem dX5_mixPair_25 : decode cX5_mixPair 25 = .ok (.bipush 81, 2) := by decide +kernel
theorem dX5_mixPair_27 : decode cX5_mixPair 27 = .ok (.if_icmp .gt 25, 3) := by decide +kernel
theorem dX5_mixPair_30 : decode cX5_mixPair 30 = .ok (.aload_n 0, 1) := by decide +kernel
theorem dX5_mixPair_31 : decode cX5_mixPair 31 = .ok (.aload_n 0, 1) := by decide +kernel
theorem dX5_mixPair_32 : decode cX5_mixPair 32 = .ok (.getfield 7, 3) := by decide +kernel
theorem dX5_mixPair_35 : decode cX5_mixPair 35 = .ok (.iload_n 1, 1) := by decide +kernel
theorem dX5_mixPair_36 : decode cX5_mixPair 36 = .ok (.iload_n 3, 1) := by decide +kernel
theorem dX5_mixPair_37 : decode cX5_mixPair 37 = .ok (.iload_n 2, 1) := by decide +kernel
theorem dX5_mixPair_38 : decode cX5_mixPair 38 = .ok (.iadd, 1) := by decide +kernel
theorem dX5_mixPair_39 : decode cX5_mixPair 39 = .ok (.invokestatic 19, 3) := by decide +kernel
theorem dX5_mixPair_42 : decode cX5_mixPair 42 = .ok (.laload, 1) := by decide +kernel
theorem dX5_mixPair_43 : decode cX5_mixPair 43 = .ok (.invokevirtual 170, 3) := by decide +kernel
theorem dX5_mixPair_46 : decode cX5_mixPair 46 = .ok (.iinc 3 16, 3) := by decide +kernel
theorem dX5_mixPair_49 : decode cX5_mixPair 49 = .ok (.goto (-25), 3) := by decide +kernel
theorem dX5_mixPair_52 : decode cX5_mixPair 52 = .ok (.aload_n 0, 1) := by decide +kernel
theorem dX5_mixPair_53 : decode cX5_mixPair 53 = .ok (.aload_n 0, 1) := by decide +kernel
theorem dX5_mixPair_54 : decode cX5_mixPair 54 = .ok (.iload_n 1, 1) := by decide +kernel
theorem dX5_mixPair_55 : decode cX5_mixPair 55 = .ok (.iload_n 2, 1) := by decide +kernel
theorem dX5_mixPair_56 : decode cX5_mixPair 56 = .ok (.invokevirtual 139, 3) := by decide +kernel
theorem dX5_mixPair_59 : decode cX5_mixPair 59 = .ok (.invokevirtual 170, 3) := by decide +kernel
theorem dX5_mixPair_62 : decode cX5_mixPair 62 = .ok (.iinc 2 1, 3) := by decide +kernel
theorem dX5_mixPair_65 : decode cX5_mixPair 65 = .ok (.goto (-49), 3) := by decide +kernel
theorem dX5_mixPair_68 : decode cX5_mixPair 68 = .ok (.aload_n 0, 1) := by decide +kernel
theorem dX5_mixPair_69 : decode cX5_mixPair 69 = .ok (.aload_n 0, 1) := by decide +kernel
theorem dX5_mixPair_70 : decode cX5_mixPair 70 = .ok (.iload_n 1, 1) := by decide +kernel
theorem dX5_mixPair_71 : decode cX5_mixPair 71 = .ok (.invokevirtual 127, 3) := by decide +kernel
theorem dX5_mixPair_74 : decode cX5_mixPair 74 = .ok (.ifCond .eq 7, 3) := by decide +kernel
theorem dX5_mixPair_77 : decode cX5_mixPair 77 = .ok (.lconst 1, 1) := by decide +kernel
theorem dX5_mixPair_78 : decode cX5_mixPair 78 = .ok (.goto 4, 3) := by decide +kernel
theorem dX5_mixPair_81 : decode cX5_mixPair 81 = .ok (.lconst 0, 1) := by decide +kernel
theorem dX5_mixPair_82 : decode cX5_mixPair 82 = .ok (.invokevirtual 170, 3) := by decide +kernel
theorem dX5_mixPair_85 : decode cX5_mixPair 85 = .ok (.aload_n 0, 1) := by decide +kernel
theorem dX5_mixPair_86 : decode cX5_mixPair 86 = .ok (.aload_n 0, 1) := by decide +kernel
theorem dX5_mixPair_87 : decode cX5_mixPair 87 = .ok (.getfield 7, 3) := by decide +kernel
theorem dX5_mixPair_90 : decode cX5_mixPair 90 = .ok (.iload_n 1, 1) := by decide +kernel
theorem dX5_mixPair_91 : decode cX5_mixPair 91 = .ok (.bipush 97, 2) := by decide +kernel
theorem dX5_mixPair_93 : decode cX5_mixPair 93 = .ok (.invokestatic 19, 3) := by decide +kernel
theorem dX5_mixPair_96 : decode cX5_mixPair 96 = .ok (.laload, 1) := by decide +kernel
theorem dX5_mixPair_97 : decode cX5_mixPair 97 = .ok (.invokevirtual 170, 3) := by decide +kernel
theorem dX5_mixPair_100 : decode cX5_mixPair 100 = .ok (.bipush 98, 2) := by decide +kernel
theorem dX5_mixPair_102 : decode cX5_mixPair 102 = .ok (.istore_n 2, 1) := by decide +kernel
theorem dX5_mixPair_103 : decode cX5_mixPair 103 = .ok (.iload_n 2, 1) := by decide +kernel
theorem dX5_mixPair_104 : decode cX5_mixPair 104 = .ok (.bipush 101, 2) := by decide +kernel
theorem dX5_mixPair_106 : decode cX5_mixPair 106 = .ok (.if_icmp .gt 39, 3) := by decide +kernel
theorem dX5_mixPair_109 : decode cX5_mixPair 109 = .ok (.aload_n 0, 1) := by decide +kernel
theorem dX5_mixPair_110 : decode cX5_mixPair 110 = .ok (.getfield 7, 3) := by decide +kernel
theorem dX5_mixPair_113 : decode cX5_mixPair 113 = .ok (.iload_n 1, 1) := by decide +kernel
theorem dX5_mixPair_114 : decode cX5_mixPair 114 = .ok (.bipush 97, 2) := by decide +kernel
theorem dX5_mixPair_116 : decode cX5_mixPair 116 = .ok (.invokestatic 19, 3) := by decide +kernel
theorem dX5_mixPair_119 : decode cX5_mixPair 119 = .ok (.laload, 1) := by decide +kernel
theorem dX5_mixPair_120 : decode cX5_mixPair 120 = .ok (.lconst 1, 1) := by decide +kernel
theorem dX5_mixPair_121 : decode cX5_mixPair 121 = .ok (.lcmp, 1) := by decide +kernel
theorem dX5_mixPair_122 : decode cX5_mixPair 122 = .ok (.ifCond .ne 23, 3) := by decide +kernel
theorem dX5_mixPair_125 : decode cX5_mixPair 125 = .ok (.aload_n 0, 1) := by decide +kernel
theorem dX5_mixPair_126 : decode cX5_mixPair 126 = .ok (.aload_n 0, 1) := by decide +kernel
theorem dX5_mixPair_127 : decode cX5_mixPair 127 = .ok (.getfield 7, 3) := by decide +kernel
theorem dX5_mixPair_130 : decode cX5_mixPair 130 = .ok (.iload_n 1, 1) := by decide +kernel
theorem dX5_mixPair_131 : decode cX5_mixPair 131 = .ok (.iload_n 2, 1) := by decide +kernel
theorem dX5_mixPair_132 : decode cX5_mixPair 132 = .ok (.invokestatic 19, 3) := by decide +kernel
theorem dX5_mixPair_135 : decode cX5_mixPair 135 = .ok (.laload, 1) := by decide +kernel
theorem dX5_mixPair_136 : decode cX5_mixPair 136 = .ok (.invokevirtual 170, 3) := by decide +kernel
theorem dX5_mixPair_139 : decode cX5_mixPair 139 = .ok (.iinc 2 1, 3) := by decide +kernel
theorem dX5_mixPair_142 : decode cX5_mixPair 142 = .ok (.goto (-39), 3) := by decide +kernel
theorem dX5_mixPair_145 : decode cX5_mixPair 145 = .ok (.aload_n 0, 1) := by decide +kernel
theorem dX5_mixPair_146 : decode cX5_mixPair 146 = .ok (.aload_n 0, 1) := by decide +kernel
theorem dX5_mixPair_147 : decode cX5_mixPair 147 = .ok (.getfield 7, 3) := by decide +kernel
theorem dX5_mixPair_150 : decode cX5_mixPair 150 = .ok (.iload_n 1, 1) := by decide +kernel
theorem dX5_mixPair_151 : decode cX5_mixPair 151 = .ok (.bipush 108, 2) := by decide +kernel
theorem dX5_mixPair_153 : decode cX5_mixPair 153 = .ok (.invokestatic 19, 3) := by decide +kernel
theorem dX5_mixPair_156 : decode cX5_mixPair 156 = .ok (.laload, 1) := by decide +kernel
theorem dX5_mixPair_157 : decode cX5_mixPair 157 = .ok (.invokevirtual 170, 3) := by decide +kernel
theorem dX5_mixPair_160 : decode cX5_mixPair 160 = .ok (.aload_n 0, 1) := by decide +kernel
theorem dX5_mixPair_161 : decode cX5_mixPair 161 = .ok (.aload_n 0, 1) := by decide +kernel
theorem dX5_mixPair_162 : decode cX5_mixPair 162 = .ok (.getfield 7, 3) := by decide +kernel
theorem dX5_mixPair_165 : decode cX5_mixPair 165 = .ok (.iload_n 1, 1) := by decide +kernel
theorem dX5_mixPair_166 : decode cX5_mixPair 166 = .ok (.bipush 112, 2) := by decide +kernel
theorem dX5_mixPair_168 : decode cX5_mixPair 168 = .ok (.invokestatic 19, 3) := by decide +kernel
theorem dX5_mixPair_171 : decode cX5_mixPair 171 = .ok (.laload, 1) := by decide +kernel
theorem dX5_mixPair_172 : decode cX5_mixPair 172 = .ok (.invokevirtual 170, 3) := by decide +kernel
theorem dX5_mixPair_175 : decode cX5_mixPair 175 = .ok (.aload_n 0, 1) := by decide +kernel
theorem dX5_mixPair_176 : decode cX5_mixPair 176 = .ok (.aload_n 0, 1) := by decide +kernel
theorem dX5_mixPair_177 : decode cX5_mixPair 177 = .ok (.getfield 7, 3) := by decide +kernel
theorem dX5_mixPair_180 : decode cX5_mixPair 180 = .ok (.iload_n 1, 1) := by decide +kernel
theorem dX5_mixPair_181 : decode cX5_mixPair 181 = .ok (.bipush 115, 2) := by decide +kernel
theorem dX5_mixPair_183 : decode cX5_mixPair 183 = .ok (.invokestatic 19, 3) := by decide +kernel
theorem dX5_mixPair_186 : decode cX5_mixPair 186 = .ok (.laload, 1) := by decide +kernel
theorem dX5_mixPair_187 : decode cX5_mixPair 187 = .ok (.invokevirtual 170, 3) := by decide +kernel
theorem dX5_mixPair_190 : decode cX5_mixPair 190 = .ok (.return_, 1) := by decide +kernel
set_option maxRecDepth 20000 in
theorem ggX5_digest_X5_mix : GoodIn wsX5_digest wsX5_mix := goodIn_r _ [10, 11, 3, 62, 63, 64, 65, 66, 67] (by decide +kernel) (by decide +kernel)
set_option maxRecDepth 20000 in
theorem gX5_digest_X5_mix : GoodIn wsX5_digest (wsV RX5 170 RX5 yX5_mix wsX5_mix) := goodIn_app (goodIn_of _ (by decide +kernel)) ggX5_digest_X5_mix
set_option maxRecDepth 20000 in
theorem ggX5_digest_X5_mixPair : GoodIn wsX5_digest wsX5_mixPair := goodIn_r _ [15, 4, 16, 17, 9, 18, 6, 7, 8, 10, 11, 3, 19, 20, 21, 22, 23, 24, 25, 26, 27, 28, 29, 30, 31, 32, 33, 34, 35, 36, 37, 38, 39, 40, 41, 42, 43, 44, 45, 46, 47, 48, 49, 50, 51, 52, 53, 54, 55, 56, 57, 58, 59, 60, 61, 62, 63, 64, 65, 66, 67] (by decide +kernel) (by decide +kernel)
set_option maxRecDepth 20000 in
theorem gX5_digest_X5_mixPair : GoodIn wsX5_digest (wsV RX5 176 RX5 yX5_mixPair wsX5_mixPair) := goodIn_app (goodIn_of _ (by decide +kernel)) ggX5_digest_X5_mixPair
theorem dX5_digest_0 : decode cX5_digest 0 = .ok (.aload_n 0, 1) := by decide +kernel
theorem dX5_digest_1 : decode cX5_digest 1 = .ok (.iconst 0, 1) := by decide +kernel
theorem dX5_digest_2 : decode cX5_digest 2 = .ok (.putfield 33, 3) := by decide +kernel
theorem dX5_digest_5 : decode cX5_digest 5 = .ok (.aload_n 0, 1) := by decide +kernel
theorem dX5_digest_6 : decode cX5_digest 6 = .ok (.ldc2_w 174, 3) := by decide +kernel
theorem dX5_digest_9 : decode cX5_digest 9 = .ok (.putfield 166, 3) := by decide +kernel
theorem dX5_digest_12 : decode cX5_digest 12 = .ok (.aload_n 0, 1) := by decide +kernel
theorem dX5_digest_13 : decode cX5_digest 13 = .ok (.aload_n 0, 1) := by decide +kernel
theorem dX5_digest_14 : decode cX5_digest 14 = .ok (.getfield 7, 3) := by decide +kernel
theorem dX5_digest_17 : decode cX5_digest 17 = .ok (.iconst 0, 1) := by decide +kernel
theorem dX5_digest_18 : decode cX5_digest 18 = .ok (.laload, 1) := by decide +kernel
theorem dX5_digest_19 : decode cX5_digest 19 = .ok (.invokevirtual 170, 3) := by decide +kernel
theorem dX5_digest_22 : decode cX5_digest 22 = .ok (.aload_n 0, 1) := by decide +kernel
theorem dX5_digest_23 : decode cX5_digest 23 = .ok (.iconst 0, 1) := by decide +kernel
theorem dX5_digest_24 : decode cX5_digest 24 = .ok (.invokevirtual 176, 3) := by decide +kernel
theorem dX5_digest_27 : decode cX5_digest 27 = .ok (.aload_n 0, 1) := by decide +kernel
theorem dX5_digest_28 : decode cX5_digest 28 = .ok (.iconst 1, 1) := by decide +kernel
theorem dX5_digest_29 : decode cX5_digest 29 = .ok (.invokevirtual 176, 3) := by decide +kernel
theorem dX5_digest_32 : decode cX5_digest 32 = .ok (.aload_n 0, 1) := by decide +kernel
theorem dX5_digest_33 : decode cX5_digest 33 = .ok (.aload_n 0, 1) := by decide +kernel
theorem dX5_digest_34 : decode cX5_digest 34 = .ok (.getfield 43, 3) := by decide +kernel
theorem dX5_digest_37 : decode cX5_digest 37 = .ok (.i2l, 1) := by decide +kernel
theorem dX5_digest_38 : decode cX5_digest 38 = .ok (.invokevirtual 170, 3) := by decide +kernel
theorem dX5_digest_41 : decode cX5_digest 41 = .ok (.aload_n 0, 1) := by decide +kernel
theorem dX5_digest_42 : decode cX5_digest 42 = .ok (.getfield 166, 3) := by decide +kernel
theorem dX5_digest_45 : decode cX5_digest 45 = .ok (.lreturn, 1) := by decide +kernel
theorem dJ9_floorMod_7cf53_0 : decode cJ9_floorMod_7cf53 0 = .ok (.iload_n 0, 1) := by decide +kernel
theorem dJ9_floorMod_7cf53_1 : decode cJ9_floorMod_7cf53 1 = .ok (.iload_n 1, 1) := by decide +kernel
theorem dJ9_floorMod_7cf53_2 : decode cJ9_floorMod_7cf53 2 = .ok (.irem, 1) := by decide +kernel
theorem dJ9_floorMod_7cf53_3 : decode cJ9_floorMod_7cf53 3 = .ok (.istore_n 2, 1) := by decide +kernel
theorem dJ9_floorMod_7cf53_4 : decode cJ9_floorMod_7cf53 4 = .ok (.iload_n 0, 1) := by decide +kernel
theorem dJ9_floorMod_7cf53_5 : decode cJ9_floorMod_7cf53 5 = .ok (.iload_n 1, 1) := by decide +kernel
theorem dJ9_floorMod_7cf53_6 : decode cJ9_floorMod_7cf53 6 = .ok (.ixor, 1) := by decide +kernel
theorem dJ9_floorMod_7cf53_7 : decode cJ9_floorMod_7cf53 7 = .ok (.ifCond .ge 11, 3) := by decide +kernel
theorem dJ9_floorMod_7cf53_10 : decode cJ9_floorMod_7cf53 10 = .ok (.iload_n 2, 1) := by decide +kernel
theorem dJ9_floorMod_7cf53_11 : decode cJ9_floorMod_7cf53 11 = .ok (.ifCond .eq 7, 3) := by decide +kernel
theorem dJ9_floorMod_7cf53_14 : decode cJ9_floorMod_7cf53 14 = .ok (.iload_n 2, 1) := by decide +kernel
theorem dJ9_floorMod_7cf53_15 : decode cJ9_floorMod_7cf53 15 = .ok (.iload_n 1, 1) := by decide +kernel
theorem dJ9_floorMod_7cf53_16 : decode cJ9_floorMod_7cf53 16 = .ok (.iadd, 1) := by decide +kernel
theorem dJ9_floorMod_7cf53_17 : decode cJ9_floorMod_7cf53 17 = .ok (.ireturn, 1) := by decide +kernel
theorem dJ9_floorMod_7cf53_18 : decode cJ9_floorMod_7cf53 18 = .ok (.iload_n 2, 1) := by decide +kernel
theorem dJ9_floorMod_7cf53_19 : decode cJ9_floorMod_7cf53 19 = .ok (.ireturn, 1) := by decide +kernel
theorem dJ7_fill_53178_0 : decode cJ7_fill_53178 0 = .ok (.iconst 0, 1) := by decide +kernel
theorem dJ7_fill_53178_1 : decode cJ7_fill_53178 1 = .ok (.istore_n 2, 1) := by decide +kernel
theorem dJ7_fill_53178_2 : decode cJ7_fill_53178 2 = .ok (.aload_n 0, 1) := by decide +kernel
theorem dJ7_fill_53178_3 : decode cJ7_fill_53178 3 = .ok (.arraylength, 1) := by decide +kernel
theorem dJ7_fill_53178_4 : decode cJ7_fill_53178 4 = .ok (.istore_n 3, 1) := by decide +kernel
theorem dJ7_fill_53178_5 : decode cJ7_fill_53178 5 = .ok (.iload_n 2, 1) := by decide +kernel
theorem dJ7_fill_53178_6 : decode cJ7_fill_53178 6 = .ok (.iload_n 3, 1) := by decide +kernel
theorem dJ7_fill_53178_7 : decode cJ7_fill_53178 7 = .ok (.if_icmp .ge 13, 3) := by decide +kernel
theorem dJ7_fill_53178_10 : decode cJ7_fill_53178 10 = .ok (.aload_n 0, 1) := by decide +kernel
theorem dJ7_fill_53178_11 : decode cJ7_fill_53178 11 = .ok (.iload_n 2, 1) := by decide +kernel
theorem dJ7_fill_53178_12 : decode cJ7_fill_53178 12 = .ok (.iload_n 1, 1) := by decide +kernel
theorem dJ7_fill_53178_13 : decode cJ7_fill_53178 13 = .ok (.iastore, 1) := by decide +kernel
theorem dJ7_fill_53178_14 : decode cJ7_fill_53178 14 = .ok (.iinc 2 1, 3) := by decide +kernel
theorem dJ7_fill_53178_17 : decode cJ7_fill_53178 17 = .ok (.goto (-12), 3) := by decide +kernel
theorem dJ7_fill_53178_20 : decode cJ7_fill_53178 20 = .ok (.return_, 1) := by decide +kernel
set_option maxRecDepth 20000 in
theorem ggL_setNoise_X4_setNoise : GoodIn wsL_setNoise wsX4_setNoise := goodIn_ca (goodIn_ca (goodIn_r _ [7, 8, 9, 10, 11, 6, 12, 13, 14, 15, 16, 17, 18, 19, 20, 21, 22, 23, 24, 25, 26, 27, 28, 29, 30, 31, 32, 33, 34, 35, 36, 37, 38, 39, 40, 41, 42, 43, 44, 45, 46, 47, 48, 49, 50, 51, 52, 53, 54, 55, 56, 57, 58, 59, 60, 61, 62, 63, 64, 65, 66, 67, 68, 69, 70, 71, 72, 73, 74, 75, 76, 77, 78, 79, 80, 81, 82, 83, 84, 85, 86, 87, 88, 89, 90, 91, 92, 93, 94, 95, 96, 97, 98, 99, 100, 101, 102, 103, 104, 105, 106, 107, 108, 109, 110, 111, 112, 113, 114, 115, 116, 117] (by decide +kernel) (by decide +kernel)) (goodIn_sub (fun _ h => List.mem_cons_of_mem _ (List.mem_append_left _ (List.mem_append_right _ h))) (by decide +kernel))) (goodIn_sub (fun _ h => List.mem_cons_of_mem _ (List.mem_append_right _ h)) (by decide +kernel))
set_option maxRecDepth 20000 in
theorem gL_setNoise_X4_setNoise : GoodIn wsL_setNoise (wsV RL 7 RX4 yX4_setNoise wsX4_setNoise) := goodIn_app (goodIn_of _ (by decide +kernel)) ggL_setNoise_X4_setNoise
theorem dL_setNoise_0 : decode cL_setNoise 0 = .ok (.aload 4, 2) := by decide +kernel
theorem dL_setNoise_2 : decode cL_setNoise 2 = .ok (.iconst 0, 1) := by decide +kernel
theorem dL_setNoise_3 : decode cL_setNoise 3 = .ok (.aload_n 0, 1) := by decide +kernel
theorem dL_setNoise_4 : decode cL_setNoise 4 = .ok (.iload_n 1, 1) := by decide +kernel
theorem dL_setNoise_5 : decode cL_setNoise 5 = .ok (.iload_n 2, 1) := by decide +kernel
theorem dL_setNoise_6 : decode cL_setNoise 6 = .ok (.iload_n 3, 1) := by decide +kernel
theorem dL_setNoise_7 : decode cL_setNoise 7 = .ok (.invokevirtual 7, 3) := by decide +kernel
theorem dL_setNoise_10 : decode cL_setNoise 10 = .ok (.i2l, 1) := by decide +kernel
theorem dL_setNoise_11 : decode cL_setNoise 11 = .ok (.lastore, 1) := by decide +kernel
theorem dL_setNoise_12 : decode cL_setNoise 12 = .ok (.goto 11, 3) := by decide +kernel
theorem dL_setNoise_15 : decode cL_setNoise 15 = .ok (.astore 5, 2) := by decide +kernel
theorem dL_setNoise_17 : decode cL_setNoise 17 = .ok (.iconst 1, 1) := by decide +kernel
theorem dL_setNoise_18 : decode cL_setNoise 18 = .ok (.ireturn, 1) := by decide +kernel
theorem dL_setNoise_19 : decode cL_setNoise 19 = .ok (.astore 5, 2) := by decide +kernel
theorem dL_setNoise_21 : decode cL_setNoise 21 = .ok (.iconst 2, 1) := by decide +kernel
theorem dL_setNoise_22 : decode cL_setNoise 22 = .ok (.ireturn, 1) := by decide +kernel
theorem dL_setNoise_23 : decode cL_setNoise 23 = .ok (.iconst 0, 1) := by decide +kernel
theorem dL_setNoise_24 : decode cL_setNoise 24 = .ok (.ireturn, 1) := by decide +kernel
set_option maxRecDepth 20000 in
theorem ggL_setCoupling_X4_setCoupling : GoodIn wsL_setCoupling wsX4_setCoupling := goodIn_ca (goodIn_ca (goodIn_r _ [7, 8, 9, 10, 11, 6, 12, 13, 14, 15, 16, 17, 18, 19, 20, 21, 22, 23, 24, 25, 26, 27, 28, 29, 30, 31, 32, 33, 34, 35, 36, 37, 38, 39, 40, 41, 42, 43, 44, 45, 46, 47, 48, 49, 50, 51, 52, 53, 54, 55, 56, 57, 58, 59, 60, 61, 62, 63, 64, 65, 66, 67, 68, 69, 70, 71, 72, 73, 74, 75, 76, 77, 78, 79, 80, 81, 82, 83, 84, 85, 86, 87, 88, 89, 90, 91, 92, 93, 94, 95, 96, 97, 98, 99, 100, 101, 102, 103, 104, 105, 106, 107, 108, 109, 110, 111, 112, 113, 114, 115, 116, 117] (by decide +kernel) (by decide +kernel)) (goodIn_sub (fun _ h => List.mem_cons_of_mem _ (List.mem_append_left _ (List.mem_append_right _ h))) (by decide +kernel))) (goodIn_sub (fun _ h => List.mem_cons_of_mem _ (List.mem_append_right _ h)) (by decide +kernel))
set_option maxRecDepth 20000 in
theorem gL_setCoupling_X4_setCoupling : GoodIn wsL_setCoupling (wsV RL 17 RX4 yX4_setCoupling wsX4_setCoupling) := goodIn_app (goodIn_of _ (by decide +kernel)) ggL_setCoupling_X4_setCoupling
theorem dL_setCoupling_0 : decode cL_setCoupling 0 = .ok (.aload 4, 2) := by decide +kernel
theorem dL_setCoupling_2 : decode cL_setCoupling 2 = .ok (.iconst 0, 1) := by decide +kernel
theorem dL_setCoupling_3 : decode cL_setCoupling 3 = .ok (.aload_n 0, 1) := by decide +kernel
theorem dL_setCoupling_4 : decode cL_setCoupling 4 = .ok (.iload_n 1, 1) := by decide +kernel
theorem dL_setCoupling_5 : decode cL_setCoupling 5 = .ok (.iload_n 2, 1) := by decide +kernel
theorem dL_setCoupling_6 : decode cL_setCoupling 6 = .ok (.iload_n 3, 1) := by decide +kernel
theorem dL_setCoupling_7 : decode cL_setCoupling 7 = .ok (.invokevirtual 17, 3) := by decide +kernel
theorem dL_setCoupling_10 : decode cL_setCoupling 10 = .ok (.i2l, 1) := by decide +kernel
theorem dL_setCoupling_11 : decode cL_setCoupling 11 = .ok (.lastore, 1) := by decide +kernel
theorem dL_setCoupling_12 : decode cL_setCoupling 12 = .ok (.goto 11, 3) := by decide +kernel
theorem dL_setCoupling_15 : decode cL_setCoupling 15 = .ok (.astore 5, 2) := by decide +kernel
theorem dL_setCoupling_17 : decode cL_setCoupling 17 = .ok (.iconst 1, 1) := by decide +kernel
theorem dL_setCoupling_18 : decode cL_setCoupling 18 = .ok (.ireturn, 1) := by decide +kernel
theorem dL_setCoupling_19 : decode cL_setCoupling 19 = .ok (.astore 5, 2) := by decide +kernel
theorem dL_setCoupling_21 : decode cL_setCoupling 21 = .ok (.iconst 2, 1) := by decide +kernel
theorem dL_setCoupling_22 : decode cL_setCoupling 22 = .ok (.ireturn, 1) := by decide +kernel
theorem dL_setCoupling_23 : decode cL_setCoupling 23 = .ok (.iconst 0, 1) := by decide +kernel
theorem dL_setCoupling_24 : decode cL_setCoupling 24 = .ok (.ireturn, 1) := by decide +kernel
set_option maxRecDepth 20000 in
theorem ggL_setLimit_X4_setLimit : GoodIn wsL_setLimit wsX4_setLimit := goodIn_ca (goodIn_ca (goodIn_ca (goodIn_r _ [8, 9, 10, 11, 12, 13, 14, 15, 16, 7, 17, 18, 19, 20, 21, 22, 23, 24, 25, 26, 27, 28, 29, 30, 31, 32, 33, 34, 35, 36, 37, 38, 39, 40, 41, 42, 43, 44, 45, 46, 47, 48, 49, 50, 51, 52, 53, 54, 55, 56, 57, 58, 59, 60, 61, 62, 63, 64, 65, 66, 67, 68, 69, 70, 71, 72, 73, 74, 75, 76, 77, 78, 79, 80, 81, 82, 83, 84, 85, 86, 87, 88, 89, 90, 91, 92, 93, 94, 95, 96, 97, 98, 99, 100, 101, 102, 103, 104, 105, 106, 107, 108, 109, 110, 111, 112, 113, 114, 115, 116, 117, 118, 119, 120, 121, 122] (by decide +kernel) (by decide +kernel)) (goodIn_sub (fun _ h => List.mem_cons_of_mem _ (List.mem_append_left _ (List.mem_append_left _ (List.mem_append_right _ h)))) (by decide +kernel))) (goodIn_sub (fun _ h => List.mem_cons_of_mem _ (List.mem_append_left _ (List.mem_append_right _ h))) (by decide +kernel))) (goodIn_sub (fun _ h => List.mem_cons_of_mem _ (List.mem_append_right _ h)) (by decide +kernel))
set_option maxRecDepth 20000 in
theorem gL_setLimit_X4_setLimit : GoodIn wsL_setLimit (wsV RL 20 RX4 yX4_setLimit wsX4_setLimit) := goodIn_app (goodIn_of _ (by decide +kernel)) ggL_setLimit_X4_setLimit
theorem dL_setLimit_0 : decode cL_setLimit 0 = .ok (.aload 4, 2) := by decide +kernel
theorem dL_setLimit_2 : decode cL_setLimit 2 = .ok (.iconst 0, 1) := by decide +kernel
theorem dL_setLimit_3 : decode cL_setLimit 3 = .ok (.aload_n 0, 1) := by decide +kernel
theorem dL_setLimit_4 : decode cL_setLimit 4 = .ok (.iload_n 1, 1) := by decide +kernel
theorem dL_setLimit_5 : decode cL_setLimit 5 = .ok (.iload_n 2, 1) := by decide +kernel
theorem dL_setLimit_6 : decode cL_setLimit 6 = .ok (.iload_n 3, 1) := by decide +kernel
theorem dL_setLimit_7 : decode cL_setLimit 7 = .ok (.invokevirtual 20, 3) := by decide +kernel
theorem dL_setLimit_10 : decode cL_setLimit 10 = .ok (.i2l, 1) := by decide +kernel
theorem dL_setLimit_11 : decode cL_setLimit 11 = .ok (.lastore, 1) := by decide +kernel
theorem dL_setLimit_12 : decode cL_setLimit 12 = .ok (.goto 15, 3) := by decide +kernel
theorem dL_setLimit_15 : decode cL_setLimit 15 = .ok (.astore 5, 2) := by decide +kernel
theorem dL_setLimit_17 : decode cL_setLimit 17 = .ok (.iconst 1, 1) := by decide +kernel
theorem dL_setLimit_18 : decode cL_setLimit 18 = .ok (.ireturn, 1) := by decide +kernel
theorem dL_setLimit_19 : decode cL_setLimit 19 = .ok (.astore 5, 2) := by decide +kernel
theorem dL_setLimit_21 : decode cL_setLimit 21 = .ok (.iconst 2, 1) := by decide +kernel
theorem dL_setLimit_22 : decode cL_setLimit 22 = .ok (.ireturn, 1) := by decide +kernel
theorem dL_setLimit_23 : decode cL_setLimit 23 = .ok (.astore 5, 2) := by decide +kernel
theorem dL_setLimit_25 : decode cL_setLimit 25 = .ok (.iconst 3, 1) := by decide +kernel
theorem dL_setLimit_26 : decode cL_setLimit 26 = .ok (.ireturn, 1) := by decide +kernel
theorem dL_setLimit_27 : decode cL_setLimit 27 = .ok (.iconst 0, 1) := by decide +kernel
theorem dL_setLimit_28 : decode cL_setLimit 28 = .ok (.ireturn, 1) := by decide +kernel
set_option maxRecDepth 20000 in
theorem ggL_setBudget_X4_setBudget : GoodIn wsL_setBudget wsX4_setBudget := goodIn_ca (goodIn_ca (goodIn_r _ [7, 8, 9, 10, 11, 12, 6, 13, 14, 15, 16, 17, 18, 19, 20, 21, 22, 23, 24, 25, 26, 27, 28, 29, 30, 31, 32, 33, 34, 35, 36, 37, 38, 39, 40, 41, 42, 43, 44, 45, 46, 47, 48, 49, 50, 51, 52, 53, 54, 55, 56, 57, 58, 59, 60, 61, 62, 63, 64, 65, 66, 67, 68, 69, 70, 71, 72, 73, 74, 75, 76, 77, 78, 79, 80, 81, 82, 83, 84, 85, 86, 87, 88, 89, 90, 91, 92, 93, 94, 95, 96, 97, 98, 99, 100, 101, 102, 103, 104, 105, 106, 107, 108, 109, 110, 111, 112] (by decide +kernel) (by decide +kernel)) (goodIn_sub (fun _ h => List.mem_cons_of_mem _ (List.mem_append_left _ (List.mem_append_right _ h))) (by decide +kernel))) (goodIn_sub (fun _ h => List.mem_cons_of_mem _ (List.mem_append_right _ h)) (by decide +kernel))
set_option maxRecDepth 20000 in
theorem gL_setBudget_X4_setBudget : GoodIn wsL_setBudget (wsV RL 25 RX4 yX4_setBudget wsX4_setBudget) := goodIn_app (goodIn_of _ (by decide +kernel)) ggL_setBudget_X4_setBudget
theorem dL_setBudget_0 : decode cL_setBudget 0 = .ok (.aload_n 3, 1) := by decide +kernel
theorem dL_setBudget_1 : decode cL_setBudget 1 = .ok (.iconst 0, 1) := by decide +kernel
theorem dL_setBudget_2 : decode cL_setBudget 2 = .ok (.aload_n 0, 1) := by decide +kernel
theorem dL_setBudget_3 : decode cL_setBudget 3 = .ok (.iload_n 1, 1) := by decide +kernel
theorem dL_setBudget_4 : decode cL_setBudget 4 = .ok (.iload_n 2, 1) := by decide +kernel
theorem dL_setBudget_5 : decode cL_setBudget 5 = .ok (.invokevirtual 25, 3) := by decide +kernel
theorem dL_setBudget_8 : decode cL_setBudget 8 = .ok (.i2l, 1) := by decide +kernel
theorem dL_setBudget_9 : decode cL_setBudget 9 = .ok (.lastore, 1) := by decide +kernel
theorem dL_setBudget_10 : decode cL_setBudget 10 = .ok (.goto 11, 3) := by decide +kernel
theorem dL_setBudget_13 : decode cL_setBudget 13 = .ok (.astore 4, 2) := by decide +kernel
theorem dL_setBudget_15 : decode cL_setBudget 15 = .ok (.iconst 1, 1) := by decide +kernel
theorem dL_setBudget_16 : decode cL_setBudget 16 = .ok (.ireturn, 1) := by decide +kernel
theorem dL_setBudget_17 : decode cL_setBudget 17 = .ok (.astore 4, 2) := by decide +kernel
theorem dL_setBudget_19 : decode cL_setBudget 19 = .ok (.iconst 2, 1) := by decide +kernel
theorem dL_setBudget_20 : decode cL_setBudget 20 = .ok (.ireturn, 1) := by decide +kernel
theorem dL_setBudget_21 : decode cL_setBudget 21 = .ok (.iconst 0, 1) := by decide +kernel
theorem dL_setBudget_22 : decode cL_setBudget 22 = .ok (.ireturn, 1) := by decide +kernel
set_option maxRecDepth 20000 in
theorem ggL_loadRate_X4_loadRate : GoodIn wsL_loadRate wsX4_loadRate := goodIn_ca (goodIn_r _ [6, 7, 8, 9, 5, 10, 11, 12, 13, 14, 15, 16, 17, 18, 19, 20, 21, 22, 23, 24, 25, 26, 27, 28, 29, 30, 31, 32, 33, 34, 35, 36, 37, 38, 39, 40, 41, 42, 43, 44, 45, 46, 47, 48, 49, 50, 51, 52, 53, 54, 55, 56, 57, 58, 59, 60, 61, 62, 63, 64, 65, 66, 67, 68, 69, 70, 71, 72, 73, 74, 75, 76, 77, 78, 79, 80, 81, 82, 83, 84, 85, 86, 87, 88, 89, 90, 91, 92, 93, 94, 95, 96, 97, 98, 99, 100, 101, 102, 103, 104, 105, 106, 107, 108, 109, 110, 111, 112, 113, 114, 115, 116, 117, 118, 119, 120, 121, 122, 123, 124, 125, 126, 127, 128, 129, 130, 131, 132, 133, 134, 135, 136, 137, 138, 139, 140, 141, 142, 143, 144, 145, 146, 147, 148, 149, 150, 151, 152, 153, 154, 155, 156, 157, 158, 159, 160, 161, 162, 163, 164, 165, 166, 167, 168, 169, 170, 171, 172, 173, 174] (by decide +kernel) (by decide +kernel)) (goodIn_sub (fun _ h => List.mem_cons_of_mem _ (List.mem_append_right _ h)) (by decide +kernel))
set_option maxRecDepth 20000 in
theorem gL_loadRate_X4_loadRate : GoodIn wsL_loadRate (wsV RL 29 RX4 yX4_loadRate wsX4_loadRate) := goodIn_app (goodIn_of _ (by decide +kernel)) ggL_loadRate_X4_loadRate
theorem dL_loadRate_0 : decode cL_loadRate 0 = .ok (.aload_n 2, 1) := by decide +kernel
theorem dL_loadRate_1 : decode cL_loadRate 1 = .ok (.iconst 0, 1) := by decide +kernel
theorem dL_loadRate_2 : decode cL_loadRate 2 = .ok (.aload_n 0, 1) := by decide +kernel
theorem dL_loadRate_3 : decode cL_loadRate 3 = .ok (.iload_n 1, 1) := by decide +kernel
theorem dL_loadRate_4 : decode cL_loadRate 4 = .ok (.invokevirtual 29, 3) := by decide +kernel
theorem dL_loadRate_7 : decode cL_loadRate 7 = .ok (.i2l, 1) := by decide +kernel
theorem dL_loadRate_8 : decode cL_loadRate 8 = .ok (.lastore, 1) := by decide +kernel
theorem dL_loadRate_9 : decode cL_loadRate 9 = .ok (.goto 6, 3) := by decide +kernel
theorem dL_loadRate_12 : decode cL_loadRate 12 = .ok (.astore_n 3, 1) := by decide +kernel
theorem dL_loadRate_13 : decode cL_loadRate 13 = .ok (.iconst 1, 1) := by decide +kernel
theorem dL_loadRate_14 : decode cL_loadRate 14 = .ok (.ireturn, 1) := by decide +kernel
theorem dL_loadRate_15 : decode cL_loadRate 15 = .ok (.iconst 0, 1) := by decide +kernel
theorem dL_loadRate_16 : decode cL_loadRate 16 = .ok (.ireturn, 1) := by decide +kernel
set_option maxRecDepth 20000 in
theorem ggL_loadBits_X4_loadBits : GoodIn wsL_loadBits wsX4_loadBits := goodIn_ca (goodIn_ca (goodIn_ca (goodIn_r _ [8, 9, 10, 11, 12, 13, 14, 7, 15, 16, 17, 18, 19, 20, 21, 22, 23, 24, 25, 26, 27, 28, 29, 30, 31, 32, 33, 34, 35, 36, 37, 38, 39, 40, 41, 42, 43, 44, 45, 46, 47, 48, 49, 50, 51, 52, 53, 54, 55, 56, 57, 58, 59, 60, 61, 62, 63, 64, 65, 66, 67, 68, 69, 70, 71, 72, 73, 74, 75, 76, 77, 78, 79, 80, 81, 82, 83, 84, 85, 86, 87, 88, 89, 90, 91, 92, 93, 94, 95, 96, 97, 98, 99, 100, 101, 102, 103, 104, 105, 106, 107, 108, 109, 110, 111, 112, 113, 114, 115, 116, 117, 118, 119, 120, 121, 122, 123, 124, 125, 126, 127, 128, 129, 130, 131, 132, 133, 134, 135, 136, 137, 138, 139, 140, 141, 142, 143, 144, 145, 146, 147, 148, 149, 150, 151, 152, 153, 154, 155, 156, 157, 158, 159, 160, 161, 162, 163, 164, 165, 166, 167, 168, 169, 170, 171, 172, 173, 174, 175, 176, 177, 178] (by decide +kernel) (by decide +kernel)) (goodIn_sub (fun _ h => List.mem_cons_of_mem _ (List.mem_append_left _ (List.mem_append_left _ (List.mem_append_right _ h)))) (by decide +kernel))) (goodIn_sub (fun _ h => List.mem_cons_of_mem _ (List.mem_append_left _ (List.mem_append_right _ h))) (by decide +kernel))) (goodIn_sub (fun _ h => List.mem_cons_of_mem _ (List.mem_append_right _ h)) (by decide +kernel))
set_option maxRecDepth 20000 in
theorem gL_loadBits_X4_loadBits : GoodIn wsL_loadBits (wsV RL 33 RX4 yX4_loadBits wsX4_loadBits) := goodIn_app (goodIn_of _ (by decide +kernel)) ggL_loadBits_X4_loadBits
theorem dL_loadBits_0 : decode cL_loadBits 0 = .ok (.aload_n 3, 1) := by decide +kernel
theorem dL_loadBits_1 : decode cL_loadBits 1 = .ok (.iconst 0, 1) := by decide +kernel
theorem dL_loadBits_2 : decode cL_loadBits 2 = .ok (.aload_n 0, 1) := by decide +kernel
theorem dL_loadBits_3 : decode cL_loadBits 3 = .ok (.iload_n 1, 1) := by decide +kernel
theorem dL_loadBits_4 : decode cL_loadBits 4 = .ok (.iload_n 2, 1) := by decide +kernel
theorem dL_loadBits_5 : decode cL_loadBits 5 = .ok (.invokevirtual 33, 3) := by decide +kernel
theorem dL_loadBits_8 : decode cL_loadBits 8 = .ok (.lastore, 1) := by decide +kernel
theorem dL_loadBits_9 : decode cL_loadBits 9 = .ok (.goto 15, 3) := by decide +kernel
theorem dL_loadBits_12 : decode cL_loadBits 12 = .ok (.astore 4, 2) := by decide +kernel
theorem dL_loadBits_14 : decode cL_loadBits 14 = .ok (.iconst 1, 1) := by decide +kernel
theorem dL_loadBits_15 : decode cL_loadBits 15 = .ok (.ireturn, 1) := by decide +kernel
theorem dL_loadBits_16 : decode cL_loadBits 16 = .ok (.astore 4, 2) := by decide +kernel
theorem dL_loadBits_18 : decode cL_loadBits 18 = .ok (.iconst 2, 1) := by decide +kernel
theorem dL_loadBits_19 : decode cL_loadBits 19 = .ok (.ireturn, 1) := by decide +kernel
theorem dL_loadBits_20 : decode cL_loadBits 20 = .ok (.astore 4, 2) := by decide +kernel
theorem dL_loadBits_22 : decode cL_loadBits 22 = .ok (.iconst 3, 1) := by decide +kernel
theorem dL_loadBits_23 : decode cL_loadBits 23 = .ok (.ireturn, 1) := by decide +kernel
theorem dL_loadBits_24 : decode cL_loadBits 24 = .ok (.iconst 0, 1) := by decide +kernel
theorem dL_loadBits_25 : decode cL_loadBits 25 = .ok (.ireturn, 1) := by decide +kernel
set_option maxRecDepth 20000 in
theorem ggL_repair_X4_repair : GoodIn wsL_repair wsX4_repair := goodIn_ca (goodIn_r _ [6, 7, 8, 9, 10, 5, 11, 12, 13, 14, 15, 16, 17, 18, 19, 20, 21, 22, 23, 24, 25, 26, 27, 28, 29, 30, 31, 32, 33, 34, 35, 36, 37, 38, 39, 40, 41, 42, 43, 44, 45, 46, 47, 48, 49, 50, 51, 52, 53, 54, 55, 56, 57, 58, 59, 60, 61, 62, 63, 64, 65, 66, 67, 68, 69, 70, 71, 72, 73, 74, 75, 76, 77, 78, 79, 80, 81, 82, 83, 84, 85, 86, 87, 88, 89, 90, 91, 92, 93, 94, 95, 96, 97, 98, 99, 100, 101, 102, 103, 104, 105, 106, 107, 108, 109, 110, 111, 112, 113, 114, 115, 116, 117, 118, 119, 120, 121, 122, 123, 124, 125, 126, 127, 128, 129, 130, 131, 132, 133, 134, 135, 136, 137, 138, 139, 140, 141, 142, 143, 144, 145, 146, 147, 148, 149, 150, 151, 152, 153, 154, 155, 156, 157, 158, 159, 160, 161, 162, 163, 164, 165, 166, 167, 168, 169, 170, 171, 172, 173] (by decide +kernel) (by decide +kernel)) (goodIn_sub (fun _ h => List.mem_cons_of_mem _ (List.mem_append_right _ h)) (by decide +kernel))
set_option maxRecDepth 20000 in
theorem gL_repair_X4_repair : GoodIn wsL_repair (wsV RL 37 RX4 yX4_repair wsX4_repair) := goodIn_app (goodIn_of _ (by decide +kernel)) ggL_repair_X4_repair
theorem dL_repair_0 : decode cL_repair 0 = .ok (.aload_n 2, 1) := by decide +kernel
theorem dL_repair_1 : decode cL_repair 1 = .ok (.iconst 0, 1) := by decide +kernel
theorem dL_repair_2 : decode cL_repair 2 = .ok (.aload_n 0, 1) := by decide +kernel
theorem dL_repair_3 : decode cL_repair 3 = .ok (.iload_n 1, 1) := by decide +kernel
theorem dL_repair_4 : decode cL_repair 4 = .ok (.invokevirtual 37, 3) := by decide +kernel
theorem dL_repair_7 : decode cL_repair 7 = .ok (.i2l, 1) := by decide +kernel
theorem dL_repair_8 : decode cL_repair 8 = .ok (.lastore, 1) := by decide +kernel
theorem dL_repair_9 : decode cL_repair 9 = .ok (.goto 6, 3) := by decide +kernel
theorem dL_repair_12 : decode cL_repair 12 = .ok (.astore_n 3, 1) := by decide +kernel
theorem dL_repair_13 : decode cL_repair 13 = .ok (.iconst 1, 1) := by decide +kernel
theorem dL_repair_14 : decode cL_repair 14 = .ok (.ireturn, 1) := by decide +kernel
theorem dL_repair_15 : decode cL_repair 15 = .ok (.iconst 0, 1) := by decide +kernel
theorem dL_repair_16 : decode cL_repair 16 = .ok (.ireturn, 1) := by decide +kernel
set_option maxRecDepth 20000 in
theorem ggL_balance_X4_balance : GoodIn wsL_balance wsX4_balance := goodIn_ca (goodIn_r _ [6, 7, 8, 9, 10, 11, 5, 12, 13, 14, 15, 16, 17, 18, 19, 20, 21, 22, 23, 24, 25, 26, 27, 28, 29, 30, 31, 32, 33, 34, 35, 36, 37, 38, 39, 40, 41, 42, 43, 44, 45, 46, 47, 48, 49, 50, 51, 52, 53, 54, 55, 56, 57, 58, 59, 60, 61, 62, 63, 64, 65, 66, 67, 68, 69, 70, 71, 72, 73, 74, 75, 76, 77, 78, 79, 80, 81, 82, 83, 84, 85, 86, 87, 88, 89, 90, 91, 92, 93, 94, 95, 96, 97, 98, 99, 100, 101, 102, 103, 104, 105, 106, 107, 108, 109, 110, 111, 112, 113, 114, 115, 116, 117, 118, 119, 120, 121, 122, 123, 124, 125, 126, 127, 128, 129, 130, 131, 132, 133, 134, 135, 136, 137, 138, 139, 140, 141, 142, 143, 144, 145, 146, 147, 148, 149, 150, 151, 152, 153, 154, 155, 156, 157, 158, 159, 160, 161, 162, 163, 164, 165] (by decide +kernel) (by decide +kernel)) (goodIn_sub (fun _ h => List.mem_cons_of_mem _ (List.mem_append_right _ h)) (by decide +kernel))
set_option maxRecDepth 20000 in
theorem gL_balance_X4_balance : GoodIn wsL_balance (wsV RL 40 RX4 yX4_balance wsX4_balance) := goodIn_app (goodIn_of _ (by decide +kernel)) ggL_balance_X4_balance
theorem dL_balance_0 : decode cL_balance 0 = .ok (.aload_n 2, 1) := by decide +kernel
theorem dL_balance_1 : decode cL_balance 1 = .ok (.iconst 0, 1) := by decide +kernel
theorem dL_balance_2 : decode cL_balance 2 = .ok (.aload_n 0, 1) := by decide +kernel
theorem dL_balance_3 : decode cL_balance 3 = .ok (.iload_n 1, 1) := by decide +kernel
theorem dL_balance_4 : decode cL_balance 4 = .ok (.invokevirtual 40, 3) := by decide +kernel
theorem dL_balance_7 : decode cL_balance 7 = .ok (.i2l, 1) := by decide +kernel
theorem dL_balance_8 : decode cL_balance 8 = .ok (.lastore, 1) := by decide +kernel
theorem dL_balance_9 : decode cL_balance 9 = .ok (.goto 6, 3) := by decide +kernel
theorem dL_balance_12 : decode cL_balance 12 = .ok (.astore_n 3, 1) := by decide +kernel
theorem dL_balance_13 : decode cL_balance 13 = .ok (.iconst 1, 1) := by decide +kernel
theorem dL_balance_14 : decode cL_balance 14 = .ok (.ireturn, 1) := by decide +kernel
theorem dL_balance_15 : decode cL_balance 15 = .ok (.iconst 0, 1) := by decide +kernel
theorem dL_balance_16 : decode cL_balance 16 = .ok (.ireturn, 1) := by decide +kernel
set_option maxRecDepth 20000 in
theorem ggL_bits_X4_bits : GoodIn wsL_bits wsX4_bits := goodIn_ca (goodIn_ca (goodIn_r _ [7, 8, 9, 10, 11, 12, 6, 13, 14, 15, 16, 17, 18, 19, 20, 21, 22, 23, 24, 25, 26, 27, 28, 29, 30, 31, 32, 33, 34, 35, 36, 37, 38, 39, 40, 41, 42, 43, 44, 45, 46, 47] (by decide +kernel) (by decide +kernel)) (goodIn_sub (fun _ h => List.mem_cons_of_mem _ (List.mem_append_left _ (List.mem_append_right _ h))) (by decide +kernel))) (goodIn_sub (fun _ h => List.mem_cons_of_mem _ (List.mem_append_right _ h)) (by decide +kernel))
set_option maxRecDepth 20000 in
theorem gL_bits_X4_bits : GoodIn wsL_bits (wsV RL 43 RX4 yX4_bits wsX4_bits) := goodIn_app (goodIn_of _ (by decide +kernel)) ggL_bits_X4_bits
theorem dL_bits_0 : decode cL_bits 0 = .ok (.aload 4, 2) := by decide +kernel
theorem dL_bits_2 : decode cL_bits 2 = .ok (.iconst 0, 1) := by decide +kernel
theorem dL_bits_3 : decode cL_bits 3 = .ok (.aload_n 0, 1) := by decide +kernel
theorem dL_bits_4 : decode cL_bits 4 = .ok (.iload_n 1, 1) := by decide +kernel
theorem dL_bits_5 : decode cL_bits 5 = .ok (.iload_n 2, 1) := by decide +kernel
theorem dL_bits_6 : decode cL_bits 6 = .ok (.iload_n 3, 1) := by decide +kernel
theorem dL_bits_7 : decode cL_bits 7 = .ok (.invokevirtual 43, 3) := by decide +kernel
theorem dL_bits_10 : decode cL_bits 10 = .ok (.i2l, 1) := by decide +kernel
theorem dL_bits_11 : decode cL_bits 11 = .ok (.lastore, 1) := by decide +kernel
theorem dL_bits_12 : decode cL_bits 12 = .ok (.goto 11, 3) := by decide +kernel
theorem dL_bits_15 : decode cL_bits 15 = .ok (.astore 5, 2) := by decide +kernel
theorem dL_bits_17 : decode cL_bits 17 = .ok (.iconst 1, 1) := by decide +kernel
theorem dL_bits_18 : decode cL_bits 18 = .ok (.ireturn, 1) := by decide +kernel
theorem dL_bits_19 : decode cL_bits 19 = .ok (.astore 5, 2) := by decide +kernel
theorem dL_bits_21 : decode cL_bits 21 = .ok (.iconst 2, 1) := by decide +kernel
theorem dL_bits_22 : decode cL_bits 22 = .ok (.ireturn, 1) := by decide +kernel
theorem dL_bits_23 : decode cL_bits 23 = .ok (.iconst 0, 1) := by decide +kernel
theorem dL_bits_24 : decode cL_bits 24 = .ok (.ireturn, 1) := by decide +kernel
set_option maxRecDepth 20000 in
theorem ggL_rate_X4_rate : GoodIn wsL_rate wsX4_rate := goodIn_ca (goodIn_r _ [6, 7, 8, 9, 5, 10, 11, 12, 13, 14, 15, 16, 17, 18, 19, 20, 21, 22, 23, 24, 25, 26, 27, 28, 29, 30, 31, 32, 33, 34, 35, 36, 37, 38, 39] (by decide +kernel) (by decide +kernel)) (goodIn_sub (fun _ h => List.mem_cons_of_mem _ (List.mem_append_right _ h)) (by decide +kernel))
set_option maxRecDepth 20000 in
theorem gL_rate_X4_rate : GoodIn wsL_rate (wsV RL 46 RX4 yX4_rate wsX4_rate) := goodIn_app (goodIn_of _ (by decide +kernel)) ggL_rate_X4_rate
theorem dL_rate_0 : decode cL_rate 0 = .ok (.aload_n 2, 1) := by decide +kernel
theorem dL_rate_1 : decode cL_rate 1 = .ok (.iconst 0, 1) := by decide +kernel
theorem dL_rate_2 : decode cL_rate 2 = .ok (.aload_n 0, 1) := by decide +kernel
theorem dL_rate_3 : decode cL_rate 3 = .ok (.iload_n 1, 1) := by decide +kernel
theorem dL_rate_4 : decode cL_rate 4 = .ok (.invokevirtual 46, 3) := by decide +kernel
theorem dL_rate_7 : decode cL_rate 7 = .ok (.i2l, 1) := by decide +kernel
theorem dL_rate_8 : decode cL_rate 8 = .ok (.lastore, 1) := by decide +kernel
theorem dL_rate_9 : decode cL_rate 9 = .ok (.goto 6, 3) := by decide +kernel
theorem dL_rate_12 : decode cL_rate 12 = .ok (.astore_n 3, 1) := by decide +kernel
theorem dL_rate_13 : decode cL_rate 13 = .ok (.iconst 1, 1) := by decide +kernel
theorem dL_rate_14 : decode cL_rate 14 = .ok (.ireturn, 1) := by decide +kernel
theorem dL_rate_15 : decode cL_rate 15 = .ok (.iconst 0, 1) := by decide +kernel
theorem dL_rate_16 : decode cL_rate 16 = .ok (.ireturn, 1) := by decide +kernel
set_option maxRecDepth 20000 in
theorem ggL_energy_X4_energy : GoodIn wsL_energy wsX4_energy := goodIn_ca (goodIn_r _ [6, 7, 8, 9, 10, 5, 11, 12, 13, 14, 15, 16, 17, 18, 19, 20, 21, 22, 23, 24, 25, 26, 27, 28, 29, 30, 31, 32, 33, 34, 35, 36, 37, 38, 39, 40] (by decide +kernel) (by decide +kernel)) (goodIn_sub (fun _ h => List.mem_cons_of_mem _ (List.mem_append_right _ h)) (by decide +kernel))
set_option maxRecDepth 20000 in
theorem gL_energy_X4_energy : GoodIn wsL_energy (wsV RL 49 RX4 yX4_energy wsX4_energy) := goodIn_app (goodIn_of _ (by decide +kernel)) ggL_energy_X4_energy
theorem dL_energy_0 : decode cL_energy 0 = .ok (.aload_n 3, 1) := by decide +kernel
theorem dL_energy_1 : decode cL_energy 1 = .ok (.iconst 0, 1) := by decide +kernel
theorem dL_energy_2 : decode cL_energy 2 = .ok (.aload_n 0, 1) := by decide +kernel
theorem dL_energy_3 : decode cL_energy 3 = .ok (.iload_n 1, 1) := by decide +kernel
theorem dL_energy_4 : decode cL_energy 4 = .ok (.iload_n 2, 1) := by decide +kernel
theorem dL_energy_5 : decode cL_energy 5 = .ok (.invokevirtual 49, 3) := by decide +kernel
theorem dL_energy_8 : decode cL_energy 8 = .ok (.lastore, 1) := by decide +kernel
theorem dL_energy_9 : decode cL_energy 9 = .ok (.goto 7, 3) := by decide +kernel
theorem dL_energy_12 : decode cL_energy 12 = .ok (.astore 4, 2) := by decide +kernel
theorem dL_energy_14 : decode cL_energy 14 = .ok (.iconst 1, 1) := by decide +kernel
theorem dL_energy_15 : decode cL_energy 15 = .ok (.ireturn, 1) := by decide +kernel
theorem dL_energy_16 : decode cL_energy 16 = .ok (.iconst 0, 1) := by decide +kernel
theorem dL_energy_17 : decode cL_energy 17 = .ok (.ireturn, 1) := by decide +kernel
set_option maxRecDepth 20000 in
theorem ggL_totalEnergy_X4_totalEnergy : GoodIn wsL_totalEnergy wsX4_totalEnergy := goodIn_ca (goodIn_r _ [6, 7, 8, 9, 5, 10, 11, 12, 13, 14, 15, 16, 17, 18, 19, 20, 21, 22, 23, 24, 25, 26, 27, 28, 29, 30, 31, 32, 33, 34, 35, 36, 37, 38, 39] (by decide +kernel) (by decide +kernel)) (goodIn_sub (fun _ h => List.mem_cons_of_mem _ (List.mem_append_right _ h)) (by decide +kernel))
set_option maxRecDepth 20000 in
theorem gL_totalEnergy_X4_totalEnergy : GoodIn wsL_totalEnergy (wsV RL 52 RX4 yX4_totalEnergy wsX4_totalEnergy) := goodIn_app (goodIn_of _ (by decide +kernel)) ggL_totalEnergy_X4_totalEnergy
theorem dL_totalEnergy_0 : decode cL_totalEnergy 0 = .ok (.aload_n 2, 1) := by decide +kernel
theorem dL_totalEnergy_1 : decode cL_totalEnergy 1 = .ok (.iconst 0, 1) := by decide +kernel
theorem dL_totalEnergy_2 : decode cL_totalEnergy 2 = .ok (.aload_n 0, 1) := by decide +kernel
theorem dL_totalEnergy_3 : decode cL_totalEnergy 3 = .ok (.iload_n 1, 1) := by decide +kernel
theorem dL_totalEnergy_4 : decode cL_totalEnergy 4 = .ok (.invokevirtual 52, 3) := by decide +kernel
theorem dL_totalEnergy_7 : decode cL_totalEnergy 7 = .ok (.lastore, 1) := by decide +kernel
theorem dL_totalEnergy_8 : decode cL_totalEnergy 8 = .ok (.goto 6, 3) := by decide +kernel
theorem dL_totalEnergy_11 : decode cL_totalEnergy 11 = .ok (.astore_n 3, 1) := by decide +kernel
theorem dL_totalEnergy_12 : decode cL_totalEnergy 12 = .ok (.iconst 1, 1) := by decide +kernel
theorem dL_totalEnergy_13 : decode cL_totalEnergy 13 = .ok (.ireturn, 1) := by decide +kernel
theorem dL_totalEnergy_14 : decode cL_totalEnergy 14 = .ok (.iconst 0, 1) := by decide +kernel
theorem dL_totalEnergy_15 : decode cL_totalEnergy 15 = .ok (.ireturn, 1) := by decide +kernel
set_option maxRecDepth 20000 in
theorem ggL_disturbedNoise_X4_disturbedNoise : GoodIn wsL_disturbedNoise wsX4_disturbedNoise := goodIn_ca (goodIn_r _ [6, 7, 8, 9, 5, 10, 11, 12, 13, 14, 15, 16, 17, 18, 19, 20, 21, 22, 23, 24, 25, 26, 27, 28, 29, 30, 31, 32, 33, 34, 35, 36, 37, 38, 39, 40, 41, 42, 43, 44, 45, 46, 47, 48, 49, 50, 51, 52] (by decide +kernel) (by decide +kernel)) (goodIn_sub (fun _ h => List.mem_cons_of_mem _ (List.mem_append_right _ h)) (by decide +kernel))
set_option maxRecDepth 20000 in
theorem gL_disturbedNoise_X4_disturbedNoise : GoodIn wsL_disturbedNoise (wsV RL 56 RX4 yX4_disturbedNoise wsX4_disturbedNoise) := goodIn_app (goodIn_of _ (by decide +kernel)) ggL_disturbedNoise_X4_disturbedNoise
theorem dL_disturbedNoise_0 : decode cL_disturbedNoise 0 = .ok (.aload_n 3, 1) := by decide +kernel
theorem dL_disturbedNoise_1 : decode cL_disturbedNoise 1 = .ok (.iconst 0, 1) := by decide +kernel
theorem dL_disturbedNoise_2 : decode cL_disturbedNoise 2 = .ok (.aload_n 0, 1) := by decide +kernel
theorem dL_disturbedNoise_3 : decode cL_disturbedNoise 3 = .ok (.iload_n 1, 1) := by decide +kernel
theorem dL_disturbedNoise_4 : decode cL_disturbedNoise 4 = .ok (.iload_n 2, 1) := by decide +kernel
theorem dL_disturbedNoise_5 : decode cL_disturbedNoise 5 = .ok (.invokevirtual 56, 3) := by decide +kernel
theorem dL_disturbedNoise_8 : decode cL_disturbedNoise 8 = .ok (.lastore, 1) := by decide +kernel
theorem dL_disturbedNoise_9 : decode cL_disturbedNoise 9 = .ok (.goto 7, 3) := by decide +kernel
theorem dL_disturbedNoise_12 : decode cL_disturbedNoise 12 = .ok (.astore 4, 2) := by decide +kernel
theorem dL_disturbedNoise_14 : decode cL_disturbedNoise 14 = .ok (.iconst 1, 1) := by decide +kernel
theorem dL_disturbedNoise_15 : decode cL_disturbedNoise 15 = .ok (.ireturn, 1) := by decide +kernel
theorem dL_disturbedNoise_16 : decode cL_disturbedNoise 16 = .ok (.iconst 0, 1) := by decide +kernel
theorem dL_disturbedNoise_17 : decode cL_disturbedNoise 17 = .ok (.ireturn, 1) := by decide +kernel
set_option maxRecDepth 20000 in
theorem ggL_margin_X4_margin : GoodIn wsL_margin wsX4_margin := goodIn_ca (goodIn_r _ [6, 7, 8, 9, 5, 10, 11, 12, 13, 14, 15, 16, 17, 18, 19, 20, 21, 22, 23, 24, 25, 26, 27, 28, 29, 30, 31, 32, 33, 34, 35, 36, 37, 38, 39, 40, 41, 42, 43, 44, 45, 46, 47, 48, 49, 50, 51, 52, 53, 54, 55, 56, 57, 58, 59, 60, 61, 62, 63, 64, 65] (by decide +kernel) (by decide +kernel)) (goodIn_sub (fun _ h => List.mem_cons_of_mem _ (List.mem_append_right _ h)) (by decide +kernel))
set_option maxRecDepth 20000 in
theorem gL_margin_X4_margin : GoodIn wsL_margin (wsV RL 59 RX4 yX4_margin wsX4_margin) := goodIn_app (goodIn_of _ (by decide +kernel)) ggL_margin_X4_margin
theorem dL_margin_0 : decode cL_margin 0 = .ok (.aload_n 3, 1) := by decide +kernel
theorem dL_margin_1 : decode cL_margin 1 = .ok (.iconst 0, 1) := by decide +kernel
theorem dL_margin_2 : decode cL_margin 2 = .ok (.aload_n 0, 1) := by decide +kernel
theorem dL_margin_3 : decode cL_margin 3 = .ok (.iload_n 1, 1) := by decide +kernel
theorem dL_margin_4 : decode cL_margin 4 = .ok (.iload_n 2, 1) := by decide +kernel
theorem dL_margin_5 : decode cL_margin 5 = .ok (.invokevirtual 59, 3) := by decide +kernel
theorem dL_margin_8 : decode cL_margin 8 = .ok (.lastore, 1) := by decide +kernel
theorem dL_margin_9 : decode cL_margin 9 = .ok (.goto 7, 3) := by decide +kernel
theorem dL_margin_12 : decode cL_margin 12 = .ok (.astore 4, 2) := by decide +kernel
theorem dL_margin_14 : decode cL_margin 14 = .ok (.iconst 1, 1) := by decide +kernel
theorem dL_margin_15 : decode cL_margin 15 = .ok (.ireturn, 1) := by decide +kernel
theorem dL_margin_16 : decode cL_margin 16 = .ok (.iconst 0, 1) := by decide +kernel
theorem dL_margin_17 : decode cL_margin 17 = .ok (.ireturn, 1) := by decide +kernel
set_option maxRecDepth 20000 in
theorem ggL_leastMargin_X4_leastMargin : GoodIn wsL_leastMargin wsX4_leastMargin := goodIn_ca (goodIn_r _ [6, 7, 8, 9, 10, 5, 11, 12, 13, 14, 15, 16, 17, 18, 19, 20, 21, 22, 23, 24, 25, 26, 27, 28, 29, 30, 31, 32, 33, 34, 35, 36, 37, 38, 39, 40, 41, 42, 43, 44, 45, 46, 47, 48, 49, 50, 51, 52, 53, 54, 55, 56, 57, 58, 59, 60, 61, 62, 63, 64, 65] (by decide +kernel) (by decide +kernel)) (goodIn_sub (fun _ h => List.mem_cons_of_mem _ (List.mem_append_right _ h)) (by decide +kernel))
set_option maxRecDepth 20000 in
theorem gL_leastMargin_X4_leastMargin : GoodIn wsL_leastMargin (wsV RL 62 RX4 yX4_leastMargin wsX4_leastMargin) := goodIn_app (goodIn_of _ (by decide +kernel)) ggL_leastMargin_X4_leastMargin
theorem dL_leastMargin_0 : decode cL_leastMargin 0 = .ok (.aload_n 2, 1) := by decide +kernel
theorem dL_leastMargin_1 : decode cL_leastMargin 1 = .ok (.iconst 0, 1) := by decide +kernel
theorem dL_leastMargin_2 : decode cL_leastMargin 2 = .ok (.aload_n 0, 1) := by decide +kernel
theorem dL_leastMargin_3 : decode cL_leastMargin 3 = .ok (.iload_n 1, 1) := by decide +kernel
theorem dL_leastMargin_4 : decode cL_leastMargin 4 = .ok (.invokevirtual 62, 3) := by decide +kernel
theorem dL_leastMargin_7 : decode cL_leastMargin 7 = .ok (.lastore, 1) := by decide +kernel
theorem dL_leastMargin_8 : decode cL_leastMargin 8 = .ok (.goto 6, 3) := by decide +kernel
theorem dL_leastMargin_11 : decode cL_leastMargin 11 = .ok (.astore_n 3, 1) := by decide +kernel
theorem dL_leastMargin_12 : decode cL_leastMargin 12 = .ok (.iconst 1, 1) := by decide +kernel
theorem dL_leastMargin_13 : decode cL_leastMargin 13 = .ok (.ireturn, 1) := by decide +kernel
theorem dL_leastMargin_14 : decode cL_leastMargin 14 = .ok (.iconst 0, 1) := by decide +kernel
theorem dL_leastMargin_15 : decode cL_leastMargin 15 = .ok (.ireturn, 1) := by decide +kernel
set_option maxRecDepth 20000 in
theorem ggL_badTones_X4_badTones : GoodIn wsL_badTones wsX4_badTones := goodIn_ca (goodIn_r _ [6, 7, 8, 9, 10, 11, 5, 12, 13, 14, 15, 16, 17, 18, 19, 20, 21, 22, 23, 24, 25, 26, 27, 28, 29, 30, 31, 32, 33, 34, 35, 36, 37, 38, 39, 40, 41, 42, 43, 44, 45, 46, 47, 48, 49, 50, 51, 52, 53, 54, 55, 56, 57, 58, 59, 60, 61] (by decide +kernel) (by decide +kernel)) (goodIn_sub (fun _ h => List.mem_cons_of_mem _ (List.mem_append_right _ h)) (by decide +kernel))
set_option maxRecDepth 20000 in
theorem gL_badTones_X4_badTones : GoodIn wsL_badTones (wsV RL 65 RX4 yX4_badTones wsX4_badTones) := goodIn_app (goodIn_of _ (by decide +kernel)) ggL_badTones_X4_badTones
theorem dL_badTones_0 : decode cL_badTones 0 = .ok (.aload_n 2, 1) := by decide +kernel
theorem dL_badTones_1 : decode cL_badTones 1 = .ok (.iconst 0, 1) := by decide +kernel
theorem dL_badTones_2 : decode cL_badTones 2 = .ok (.aload_n 0, 1) := by decide +kernel
theorem dL_badTones_3 : decode cL_badTones 3 = .ok (.iload_n 1, 1) := by decide +kernel
theorem dL_badTones_4 : decode cL_badTones 4 = .ok (.invokevirtual 65, 3) := by decide +kernel
theorem dL_badTones_7 : decode cL_badTones 7 = .ok (.i2l, 1) := by decide +kernel
theorem dL_badTones_8 : decode cL_badTones 8 = .ok (.lastore, 1) := by decide +kernel
theorem dL_badTones_9 : decode cL_badTones 9 = .ok (.goto 6, 3) := by decide +kernel
theorem dL_badTones_12 : decode cL_badTones 12 = .ok (.astore_n 3, 1) := by decide +kernel
theorem dL_badTones_13 : decode cL_badTones 13 = .ok (.iconst 1, 1) := by decide +kernel
theorem dL_badTones_14 : decode cL_badTones 14 = .ok (.ireturn, 1) := by decide +kernel
theorem dL_badTones_15 : decode cL_badTones 15 = .ok (.iconst 0, 1) := by decide +kernel
theorem dL_badTones_16 : decode cL_badTones 16 = .ok (.ireturn, 1) := by decide +kernel
set_option maxRecDepth 20000 in
theorem ggL_isEfficient_X4_isEfficient : GoodIn wsL_isEfficient wsX4_isEfficient := goodIn_ca (goodIn_r _ [6, 7, 8, 9, 5, 10, 11, 12, 13, 14, 15, 16, 17, 18, 19, 20, 21, 22, 23, 24, 25, 26, 27, 28, 29, 30, 31, 32, 33, 34, 35, 36, 37, 38, 39, 40, 41, 42, 43, 44, 45, 46, 47, 48, 49, 50, 51, 52, 53, 54, 55, 56, 57, 58, 59, 60, 61, 62, 63, 64, 65, 66, 67, 68, 69, 70, 71, 72, 73, 74, 75, 76, 77, 78, 79, 80, 81, 82, 83, 84, 85, 86, 87, 88, 89, 90, 91, 92] (by decide +kernel) (by decide +kernel)) (goodIn_sub (fun _ h => List.mem_cons_of_mem _ (List.mem_append_right _ h)) (by decide +kernel))
set_option maxRecDepth 20000 in
theorem gL_isEfficient_X4_isEfficient : GoodIn wsL_isEfficient (wsV RL 68 RX4 yX4_isEfficient wsX4_isEfficient) := goodIn_app (goodIn_of _ (by decide +kernel)) ggL_isEfficient_X4_isEfficient
theorem dL_isEfficient_0 : decode cL_isEfficient 0 = .ok (.aload_n 2, 1) := by decide +kernel
theorem dL_isEfficient_1 : decode cL_isEfficient 1 = .ok (.iconst 0, 1) := by decide +kernel
theorem dL_isEfficient_2 : decode cL_isEfficient 2 = .ok (.aload_n 0, 1) := by decide +kernel
theorem dL_isEfficient_3 : decode cL_isEfficient 3 = .ok (.iload_n 1, 1) := by decide +kernel
theorem dL_isEfficient_4 : decode cL_isEfficient 4 = .ok (.invokevirtual 68, 3) := by decide +kernel
theorem dL_isEfficient_7 : decode cL_isEfficient 7 = .ok (.ifCond .eq 7, 3) := by decide +kernel
theorem dL_isEfficient_10 : decode cL_isEfficient 10 = .ok (.lconst 1, 1) := by decide +kernel
theorem dL_isEfficient_11 : decode cL_isEfficient 11 = .ok (.goto 4, 3) := by decide +kernel
theorem dL_isEfficient_14 : decode cL_isEfficient 14 = .ok (.lconst 0, 1) := by decide +kernel
theorem dL_isEfficient_15 : decode cL_isEfficient 15 = .ok (.lastore, 1) := by decide +kernel
theorem dL_isEfficient_16 : decode cL_isEfficient 16 = .ok (.goto 6, 3) := by decide +kernel
theorem dL_isEfficient_19 : decode cL_isEfficient 19 = .ok (.astore_n 3, 1) := by decide +kernel
theorem dL_isEfficient_20 : decode cL_isEfficient 20 = .ok (.iconst 1, 1) := by decide +kernel
theorem dL_isEfficient_21 : decode cL_isEfficient 21 = .ok (.ireturn, 1) := by decide +kernel
theorem dL_isEfficient_22 : decode cL_isEfficient 22 = .ok (.iconst 0, 1) := by decide +kernel
theorem dL_isEfficient_23 : decode cL_isEfficient 23 = .ok (.ireturn, 1) := by decide +kernel
set_option maxRecDepth 20000 in
theorem ggL_meanBits_X4_meanBits : GoodIn wsL_meanBits wsX4_meanBits := goodIn_ca (goodIn_r _ [6, 7, 8, 9, 10, 5, 11, 12, 13, 14, 15, 16, 17, 18, 19, 20, 21, 22, 23, 24, 25, 26, 27, 28, 29, 30, 31, 32, 33, 34, 35, 36, 37, 38, 39, 40] (by decide +kernel) (by decide +kernel)) (goodIn_sub (fun _ h => List.mem_cons_of_mem _ (List.mem_append_right _ h)) (by decide +kernel))
set_option maxRecDepth 20000 in
theorem gL_meanBits_X4_meanBits : GoodIn wsL_meanBits (wsV RL 72 RX4 yX4_meanBits wsX4_meanBits) := goodIn_app (goodIn_of _ (by decide +kernel)) ggL_meanBits_X4_meanBits
theorem dL_meanBits_0 : decode cL_meanBits 0 = .ok (.aload_n 2, 1) := by decide +kernel
theorem dL_meanBits_1 : decode cL_meanBits 1 = .ok (.iconst 0, 1) := by decide +kernel
theorem dL_meanBits_2 : decode cL_meanBits 2 = .ok (.aload_n 0, 1) := by decide +kernel
theorem dL_meanBits_3 : decode cL_meanBits 3 = .ok (.iload_n 1, 1) := by decide +kernel
theorem dL_meanBits_4 : decode cL_meanBits 4 = .ok (.invokevirtual 72, 3) := by decide +kernel
theorem dL_meanBits_7 : decode cL_meanBits 7 = .ok (.dastore, 1) := by decide +kernel
theorem dL_meanBits_8 : decode cL_meanBits 8 = .ok (.goto 6, 3) := by decide +kernel
theorem dL_meanBits_11 : decode cL_meanBits 11 = .ok (.astore_n 3, 1) := by decide +kernel
theorem dL_meanBits_12 : decode cL_meanBits 12 = .ok (.iconst 1, 1) := by decide +kernel
theorem dL_meanBits_13 : decode cL_meanBits 13 = .ok (.ireturn, 1) := by decide +kernel
theorem dL_meanBits_14 : decode cL_meanBits 14 = .ok (.iconst 0, 1) := by decide +kernel
theorem dL_meanBits_15 : decode cL_meanBits 15 = .ok (.ireturn, 1) := by decide +kernel
set_option maxRecDepth 20000 in
theorem ggL_request_X4_request : GoodIn wsL_request wsX4_request := goodIn_ca (goodIn_ca (goodIn_ca (goodIn_r _ [8, 9, 10, 11, 12, 13, 14, 15, 16, 17, 18, 19, 20, 7, 21, 22, 23, 24, 25, 26, 27, 28, 29, 30, 31, 32, 33, 34, 35, 36, 37, 38, 39, 40, 41, 42, 43, 44, 45, 46, 47, 48, 49, 50, 51, 52, 53, 54, 55, 56, 57, 58, 59, 60, 61, 62, 63, 64, 65, 66, 67, 68, 69, 70, 71, 72, 73, 74, 75, 76, 77, 78, 79, 80, 81, 82, 83, 84, 85, 86, 87, 88, 89, 90, 91, 92, 93, 94, 95, 96, 97, 98, 99, 100, 101, 102, 103, 104, 105, 106, 107, 108, 109, 110, 111, 112, 113, 114, 115, 116, 117, 118, 119, 120, 121, 122, 123, 124, 125, 126] (by decide +kernel) (by decide +kernel)) (goodIn_sub (fun _ h => List.mem_cons_of_mem _ (List.mem_append_left _ (List.mem_append_left _ (List.mem_append_right _ h)))) (by decide +kernel))) (goodIn_sub (fun _ h => List.mem_cons_of_mem _ (List.mem_append_left _ (List.mem_append_right _ h))) (by decide +kernel))) (goodIn_sub (fun _ h => List.mem_cons_of_mem _ (List.mem_append_right _ h)) (by decide +kernel))
set_option maxRecDepth 20000 in
theorem gL_request_X4_request : GoodIn wsL_request (wsV RL 76 RX4 yX4_request wsX4_request) := goodIn_app (goodIn_of _ (by decide +kernel)) ggL_request_X4_request
theorem dL_request_0 : decode cL_request 0 = .ok (.aload 4, 2) := by decide +kernel
theorem dL_request_2 : decode cL_request 2 = .ok (.iconst 0, 1) := by decide +kernel
theorem dL_request_3 : decode cL_request 3 = .ok (.aload_n 0, 1) := by decide +kernel
theorem dL_request_4 : decode cL_request 4 = .ok (.iload_n 1, 1) := by decide +kernel
theorem dL_request_5 : decode cL_request 5 = .ok (.iload_n 2, 1) := by decide +kernel
theorem dL_request_6 : decode cL_request 6 = .ok (.iload_n 3, 1) := by decide +kernel
theorem dL_request_7 : decode cL_request 7 = .ok (.invokevirtual 76, 3) := by decide +kernel
theorem dL_request_10 : decode cL_request 10 = .ok (.i2l, 1) := by decide +kernel
theorem dL_request_11 : decode cL_request 11 = .ok (.lastore, 1) := by decide +kernel
theorem dL_request_12 : decode cL_request 12 = .ok (.goto 15, 3) := by decide +kernel
theorem dL_request_15 : decode cL_request 15 = .ok (.astore 5, 2) := by decide +kernel
theorem dL_request_17 : decode cL_request 17 = .ok (.iconst 1, 1) := by decide +kernel
theorem dL_request_18 : decode cL_request 18 = .ok (.ireturn, 1) := by decide +kernel
theorem dL_request_19 : decode cL_request 19 = .ok (.astore 5, 2) := by decide +kernel
theorem dL_request_21 : decode cL_request 21 = .ok (.iconst 2, 1) := by decide +kernel
theorem dL_request_22 : decode cL_request 22 = .ok (.ireturn, 1) := by decide +kernel
theorem dL_request_23 : decode cL_request 23 = .ok (.astore 5, 2) := by decide +kernel
theorem dL_request_25 : decode cL_request 25 = .ok (.iconst 3, 1) := by decide +kernel
theorem dL_request_26 : decode cL_request 26 = .ok (.ireturn, 1) := by decide +kernel
theorem dL_request_27 : decode cL_request 27 = .ok (.iconst 0, 1) := by decide +kernel
theorem dL_request_28 : decode cL_request 28 = .ok (.ireturn, 1) := by decide +kernel
set_option maxRecDepth 20000 in
theorem ggL_suggest_X4_suggest : GoodIn wsL_suggest wsX4_suggest := goodIn_ca (goodIn_r _ [6, 7, 8, 9, 10, 5, 11, 12, 13, 14, 15, 16, 17, 18, 19, 20, 21, 22, 23, 24, 25, 26, 27, 28, 29, 30, 31, 32, 33, 34, 35, 36, 37, 38, 39, 40, 41, 42, 43, 44, 45, 46, 47, 48, 49, 50, 51, 52, 53, 54, 55, 56, 57, 58, 59, 60, 61, 62, 63, 64, 65, 66, 67, 68, 69, 70, 71, 72, 73, 74, 75, 76, 77, 78, 79, 80, 81, 82, 83, 84, 85, 86, 87, 88, 89, 90, 91, 92, 93, 94] (by decide +kernel) (by decide +kernel)) (goodIn_sub (fun _ h => List.mem_cons_of_mem _ (List.mem_append_right _ h)) (by decide +kernel))
set_option maxRecDepth 20000 in
theorem gL_suggest_X4_suggest : GoodIn wsL_suggest (wsV RL 79 RX4 yX4_suggest wsX4_suggest) := goodIn_app (goodIn_of _ (by decide +kernel)) ggL_suggest_X4_suggest
theorem dL_suggest_0 : decode cL_suggest 0 = .ok (.aload_n 2, 1) := by decide +kernel
theorem dL_suggest_1 : decode cL_suggest 1 = .ok (.iconst 0, 1) := by decide +kernel
theorem dL_suggest_2 : decode cL_suggest 2 = .ok (.aload_n 0, 1) := by decide +kernel
theorem dL_suggest_3 : decode cL_suggest 3 = .ok (.iload_n 1, 1) := by decide +kernel
theorem dL_suggest_4 : decode cL_suggest 4 = .ok (.invokevirtual 79, 3) := by decide +kernel
theorem dL_suggest_7 : decode cL_suggest 7 = .ok (.i2l, 1) := by decide +kernel
theorem dL_suggest_8 : decode cL_suggest 8 = .ok (.lastore, 1) := by decide +kernel
theorem dL_suggest_9 : decode cL_suggest 9 = .ok (.goto 6, 3) := by decide +kernel
theorem dL_suggest_12 : decode cL_suggest 12 = .ok (.astore_n 3, 1) := by decide +kernel
theorem dL_suggest_13 : decode cL_suggest 13 = .ok (.iconst 1, 1) := by decide +kernel
theorem dL_suggest_14 : decode cL_suggest 14 = .ok (.ireturn, 1) := by decide +kernel
theorem dL_suggest_15 : decode cL_suggest 15 = .ok (.iconst 0, 1) := by decide +kernel
theorem dL_suggest_16 : decode cL_suggest 16 = .ok (.ireturn, 1) := by decide +kernel
set_option maxRecDepth 20000 in
theorem ggL_resend_X4_resend : GoodIn wsL_resend wsX4_resend := goodIn_ca (goodIn_ca (goodIn_r _ [7, 8, 9, 10, 11, 12, 13, 14, 15, 16, 6, 17, 18, 19, 20, 21, 22, 23, 24, 25, 26, 27, 28, 29, 30, 31, 32, 33, 34, 35, 36, 37, 38, 39, 40, 41, 42, 43, 44, 45, 46, 47, 48, 49, 50, 51, 52, 53, 54, 55, 56, 57, 58, 59, 60, 61, 62, 63, 64, 65, 66, 67, 68, 69, 70, 71, 72, 73, 74, 75, 76, 77, 78, 79, 80, 81, 82, 83, 84, 85, 86, 87, 88, 89, 90, 91, 92, 93, 94, 95, 96, 97, 98, 99, 100, 101, 102, 103, 104, 105, 106, 107, 108, 109, 110, 111] (by decide +kernel) (by decide +kernel)) (goodIn_sub (fun _ h => List.mem_cons_of_mem _ (List.mem_append_left _ (List.mem_append_right _ h))) (by decide +kernel))) (goodIn_sub (fun _ h => List.mem_cons_of_mem _ (List.mem_append_right _ h)) (by decide +kernel))
set_option maxRecDepth 20000 in
theorem gL_resend_X4_resend : GoodIn wsL_resend (wsV RL 82 RX4 yX4_resend wsX4_resend) := goodIn_app (goodIn_of _ (by decide +kernel)) ggL_resend_X4_resend
theorem dL_resend_0 : decode cL_resend 0 = .ok (.aload_n 2, 1) := by decide +kernel
theorem dL_resend_1 : decode cL_resend 1 = .ok (.iconst 0, 1) := by decide +kernel
theorem dL_resend_2 : decode cL_resend 2 = .ok (.aload_n 0, 1) := by decide +kernel
theorem dL_resend_3 : decode cL_resend 3 = .ok (.iload_n 1, 1) := by decide +kernel
theorem dL_resend_4 : decode cL_resend 4 = .ok (.invokevirtual 82, 3) := by decide +kernel
theorem dL_resend_7 : decode cL_resend 7 = .ok (.i2l, 1) := by decide +kernel
theorem dL_resend_8 : decode cL_resend 8 = .ok (.lastore, 1) := by decide +kernel
theorem dL_resend_9 : decode cL_resend 9 = .ok (.goto 9, 3) := by decide +kernel
theorem dL_resend_12 : decode cL_resend 12 = .ok (.astore_n 3, 1) := by decide +kernel
theorem dL_resend_13 : decode cL_resend 13 = .ok (.iconst 1, 1) := by decide +kernel
theorem dL_resend_14 : decode cL_resend 14 = .ok (.ireturn, 1) := by decide +kernel
theorem dL_resend_15 : decode cL_resend 15 = .ok (.astore_n 3, 1) := by decide +kernel
theorem dL_resend_16 : decode cL_resend 16 = .ok (.iconst 2, 1) := by decide +kernel
theorem dL_resend_17 : decode cL_resend 17 = .ok (.ireturn, 1) := by decide +kernel
theorem dL_resend_18 : decode cL_resend 18 = .ok (.iconst 0, 1) := by decide +kernel
theorem dL_resend_19 : decode cL_resend 19 = .ok (.ireturn, 1) := by decide +kernel
set_option maxRecDepth 20000 in
theorem ggL_deliver_X4_deliver : GoodIn wsL_deliver wsX4_deliver := goodIn_ca (goodIn_ca (goodIn_ca (goodIn_r _ [8, 9, 10, 11, 12, 13, 14, 15, 16, 17, 18, 7, 19, 20, 21, 22, 23, 24, 25, 26, 27, 28, 29, 30, 31, 32, 33, 34, 35, 36, 37, 38, 39, 40, 41, 42, 43, 44, 45, 46, 47, 48, 49, 50, 51, 52, 53, 54, 55, 56, 57, 58, 59, 60, 61, 62, 63, 64, 65, 66, 67, 68, 69, 70, 71, 72, 73, 74, 75, 76, 77, 78, 79, 80, 81, 82, 83, 84, 85, 86, 87, 88, 89, 90, 91, 92, 93, 94, 95, 96, 97, 98, 99, 100, 101, 102, 103, 104, 105, 106, 107, 108, 109, 110, 111, 112, 113, 114, 115, 116, 117, 118, 119, 120, 121, 122, 123, 124, 125] (by decide +kernel) (by decide +kernel)) (goodIn_sub (fun _ h => List.mem_cons_of_mem _ (List.mem_append_left _ (List.mem_append_left _ (List.mem_append_right _ h)))) (by decide +kernel))) (goodIn_sub (fun _ h => List.mem_cons_of_mem _ (List.mem_append_left _ (List.mem_append_right _ h))) (by decide +kernel))) (goodIn_sub (fun _ h => List.mem_cons_of_mem _ (List.mem_append_right _ h)) (by decide +kernel))
set_option maxRecDepth 20000 in
theorem gL_deliver_X4_deliver : GoodIn wsL_deliver (wsV RL 85 RX4 yX4_deliver wsX4_deliver) := goodIn_app (goodIn_of _ (by decide +kernel)) ggL_deliver_X4_deliver
theorem dL_deliver_0 : decode cL_deliver 0 = .ok (.aload 4, 2) := by decide +kernel
theorem dL_deliver_2 : decode cL_deliver 2 = .ok (.iconst 0, 1) := by decide +kernel
theorem dL_deliver_3 : decode cL_deliver 3 = .ok (.aload_n 0, 1) := by decide +kernel
theorem dL_deliver_4 : decode cL_deliver 4 = .ok (.iload_n 1, 1) := by decide +kernel
theorem dL_deliver_5 : decode cL_deliver 5 = .ok (.iload_n 2, 1) := by decide +kernel
theorem dL_deliver_6 : decode cL_deliver 6 = .ok (.iload_n 3, 1) := by decide +kernel
theorem dL_deliver_7 : decode cL_deliver 7 = .ok (.invokevirtual 85, 3) := by decide +kernel
theorem dL_deliver_10 : decode cL_deliver 10 = .ok (.i2l, 1) := by decide +kernel
theorem dL_deliver_11 : decode cL_deliver 11 = .ok (.lastore, 1) := by decide +kernel
theorem dL_deliver_12 : decode cL_deliver 12 = .ok (.goto 15, 3) := by decide +kernel
theorem dL_deliver_15 : decode cL_deliver 15 = .ok (.astore 5, 2) := by decide +kernel
theorem dL_deliver_17 : decode cL_deliver 17 = .ok (.iconst 1, 1) := by decide +kernel
theorem dL_deliver_18 : decode cL_deliver 18 = .ok (.ireturn, 1) := by decide +kernel
theorem dL_deliver_19 : decode cL_deliver 19 = .ok (.astore 5, 2) := by decide +kernel
theorem dL_deliver_21 : decode cL_deliver 21 = .ok (.iconst 2, 1) := by decide +kernel
theorem dL_deliver_22 : decode cL_deliver 22 = .ok (.ireturn, 1) := by decide +kernel
theorem dL_deliver_23 : decode cL_deliver 23 = .ok (.astore 5, 2) := by decide +kernel
theorem dL_deliver_25 : decode cL_deliver 25 = .ok (.iconst 3, 1) := by decide +kernel
theorem dL_deliver_26 : decode cL_deliver 26 = .ok (.ireturn, 1) := by decide +kernel
theorem dL_deliver_27 : decode cL_deliver 27 = .ok (.iconst 0, 1) := by decide +kernel
theorem dL_deliver_28 : decode cL_deliver 28 = .ok (.ireturn, 1) := by decide +kernel
set_option maxRecDepth 20000 in
theorem ggL_run_X4_run : GoodIn wsL_run wsX4_run := goodIn_ca (goodIn_r _ [6, 7, 8, 9, 10, 5, 11, 12, 13, 14, 15, 16, 17, 18, 19, 20, 21, 22, 23, 24, 25, 26, 27, 28, 29, 30, 31, 32, 33, 34, 35, 36, 37, 38, 39, 40, 41, 42, 43, 44, 45, 46, 47, 48, 49, 50, 51, 52, 53, 54, 55, 56, 57, 58, 59, 60, 61, 62, 63, 64, 65, 66, 67, 68, 69, 70, 71, 72, 73, 74, 75, 76, 77, 78, 79, 80, 81, 82, 83, 84, 85, 86, 87, 88, 89, 90, 91, 92, 93, 94, 95, 96, 97, 98, 99, 100, 101, 102, 103, 104, 105, 106, 107, 108, 109, 110, 111, 112, 113, 114, 115, 116, 117, 118, 119, 120, 121, 122, 123, 124, 125, 126, 127, 128, 129, 130, 131, 132, 133, 134, 135, 136, 137, 138, 139, 140, 141, 142, 143, 144, 145, 146, 147, 148, 149, 150, 151] (by decide +kernel) (by decide +kernel)) (goodIn_sub (fun _ h => List.mem_cons_of_mem _ (List.mem_append_right _ h)) (by decide +kernel))
set_option maxRecDepth 20000 in
theorem gL_run_X4_run : GoodIn wsL_run (wsV RL 89 RX4 yX4_run wsX4_run) := goodIn_app (goodIn_of _ (by decide +kernel)) ggL_run_X4_run
theorem dL_run_0 : decode cL_run 0 = .ok (.aload_n 2, 1) := by decide +kernel
theorem dL_run_1 : decode cL_run 1 = .ok (.iconst 0, 1) := by decide +kernel
theorem dL_run_2 : decode cL_run 2 = .ok (.aload_n 0, 1) := by decide +kernel
theorem dL_run_3 : decode cL_run 3 = .ok (.iload_n 1, 1) := by decide +kernel
theorem dL_run_4 : decode cL_run 4 = .ok (.invokevirtual 89, 3) := by decide +kernel
theorem dL_run_7 : decode cL_run 7 = .ok (.i2l, 1) := by decide +kernel
theorem dL_run_8 : decode cL_run 8 = .ok (.lastore, 1) := by decide +kernel
theorem dL_run_9 : decode cL_run 9 = .ok (.goto 6, 3) := by decide +kernel
theorem dL_run_12 : decode cL_run 12 = .ok (.astore_n 3, 1) := by decide +kernel
theorem dL_run_13 : decode cL_run 13 = .ok (.iconst 1, 1) := by decide +kernel
theorem dL_run_14 : decode cL_run 14 = .ok (.ireturn, 1) := by decide +kernel
theorem dL_run_15 : decode cL_run 15 = .ok (.iconst 0, 1) := by decide +kernel
theorem dL_run_16 : decode cL_run 16 = .ok (.ireturn, 1) := by decide +kernel
set_option maxRecDepth 20000 in
theorem ggL_inStep_X4_inStep : GoodIn wsL_inStep wsX4_inStep := goodIn_ca (goodIn_r _ [6, 7, 8, 9, 10, 5, 11, 12, 13, 14, 15, 16, 17, 18, 19, 20, 21, 22, 23, 24, 25, 26, 27, 28, 29, 30, 31, 32, 33, 34] (by decide +kernel) (by decide +kernel)) (goodIn_sub (fun _ h => List.mem_cons_of_mem _ (List.mem_append_right _ h)) (by decide +kernel))
set_option maxRecDepth 20000 in
theorem gL_inStep_X4_inStep : GoodIn wsL_inStep (wsV RL 92 RX4 yX4_inStep wsX4_inStep) := goodIn_app (goodIn_of _ (by decide +kernel)) ggL_inStep_X4_inStep
theorem dL_inStep_0 : decode cL_inStep 0 = .ok (.aload_n 2, 1) := by decide +kernel
theorem dL_inStep_1 : decode cL_inStep 1 = .ok (.iconst 0, 1) := by decide +kernel
theorem dL_inStep_2 : decode cL_inStep 2 = .ok (.aload_n 0, 1) := by decide +kernel
theorem dL_inStep_3 : decode cL_inStep 3 = .ok (.iload_n 1, 1) := by decide +kernel
theorem dL_inStep_4 : decode cL_inStep 4 = .ok (.invokevirtual 92, 3) := by decide +kernel
theorem dL_inStep_7 : decode cL_inStep 7 = .ok (.ifCond .eq 7, 3) := by decide +kernel
theorem dL_inStep_10 : decode cL_inStep 10 = .ok (.lconst 1, 1) := by decide +kernel
theorem dL_inStep_11 : decode cL_inStep 11 = .ok (.goto 4, 3) := by decide +kernel
theorem dL_inStep_14 : decode cL_inStep 14 = .ok (.lconst 0, 1) := by decide +kernel
theorem dL_inStep_15 : decode cL_inStep 15 = .ok (.lastore, 1) := by decide +kernel
theorem dL_inStep_16 : decode cL_inStep 16 = .ok (.goto 6, 3) := by decide +kernel
theorem dL_inStep_19 : decode cL_inStep 19 = .ok (.astore_n 3, 1) := by decide +kernel
theorem dL_inStep_20 : decode cL_inStep 20 = .ok (.iconst 1, 1) := by decide +kernel
theorem dL_inStep_21 : decode cL_inStep 21 = .ok (.ireturn, 1) := by decide +kernel
theorem dL_inStep_22 : decode cL_inStep 22 = .ok (.iconst 0, 1) := by decide +kernel
theorem dL_inStep_23 : decode cL_inStep 23 = .ok (.ireturn, 1) := by decide +kernel
set_option maxRecDepth 20000 in
theorem ggL_brokenFrames_X4_brokenFrames : GoodIn wsL_brokenFrames wsX4_brokenFrames := goodIn_ca (goodIn_r _ [6, 7, 8, 9, 10, 5, 11, 12, 13, 14, 15, 16, 17, 18, 19, 20, 21, 22, 23, 24, 25, 26, 27, 28, 29, 30, 31, 32, 33, 34] (by decide +kernel) (by decide +kernel)) (goodIn_sub (fun _ h => List.mem_cons_of_mem _ (List.mem_append_right _ h)) (by decide +kernel))
set_option maxRecDepth 20000 in
theorem gL_brokenFrames_X4_brokenFrames : GoodIn wsL_brokenFrames (wsV RL 95 RX4 yX4_brokenFrames wsX4_brokenFrames) := goodIn_app (goodIn_of _ (by decide +kernel)) ggL_brokenFrames_X4_brokenFrames
theorem dL_brokenFrames_0 : decode cL_brokenFrames 0 = .ok (.aload_n 2, 1) := by decide +kernel
theorem dL_brokenFrames_1 : decode cL_brokenFrames 1 = .ok (.iconst 0, 1) := by decide +kernel
theorem dL_brokenFrames_2 : decode cL_brokenFrames 2 = .ok (.aload_n 0, 1) := by decide +kernel
theorem dL_brokenFrames_3 : decode cL_brokenFrames 3 = .ok (.iload_n 1, 1) := by decide +kernel
theorem dL_brokenFrames_4 : decode cL_brokenFrames 4 = .ok (.invokevirtual 95, 3) := by decide +kernel
theorem dL_brokenFrames_7 : decode cL_brokenFrames 7 = .ok (.i2l, 1) := by decide +kernel
theorem dL_brokenFrames_8 : decode cL_brokenFrames 8 = .ok (.lastore, 1) := by decide +kernel
theorem dL_brokenFrames_9 : decode cL_brokenFrames 9 = .ok (.goto 6, 3) := by decide +kernel
theorem dL_brokenFrames_12 : decode cL_brokenFrames 12 = .ok (.astore_n 3, 1) := by decide +kernel
theorem dL_brokenFrames_13 : decode cL_brokenFrames 13 = .ok (.iconst 1, 1) := by decide +kernel
theorem dL_brokenFrames_14 : decode cL_brokenFrames 14 = .ok (.ireturn, 1) := by decide +kernel
theorem dL_brokenFrames_15 : decode cL_brokenFrames 15 = .ok (.iconst 0, 1) := by decide +kernel
theorem dL_brokenFrames_16 : decode cL_brokenFrames 16 = .ok (.ireturn, 1) := by decide +kernel
set_option maxRecDepth 20000 in
theorem ggL_undo_X4_undo : GoodIn wsL_undo wsX4_undo := goodIn_ca (goodIn_r _ [6, 7, 8, 9, 10, 11, 12, 13, 14, 15, 16, 17, 18, 19, 20, 21, 22, 23, 24, 25, 26, 27, 28, 29, 30, 31, 32, 33, 34, 35, 36, 37, 38, 39, 40, 41, 42, 43, 44, 45, 46, 47, 48, 49, 50, 51, 52, 53, 54, 55, 56, 57, 58, 59, 60, 61, 62, 63, 64, 65, 66, 67, 68, 69, 70, 71, 72, 73, 74, 75, 76, 77, 78, 79, 80, 81, 82, 83, 84, 85, 86, 87, 88, 89, 90, 91, 92, 93, 94] (by decide +kernel) (by decide +kernel)) (goodIn_sub (fun _ h => List.mem_cons_of_mem _ (List.mem_append_right _ h)) (by decide +kernel))
set_option maxRecDepth 20000 in
theorem gL_undo_X4_undo : GoodIn wsL_undo (wsV RL 98 RX4 yX4_undo wsX4_undo) := goodIn_app (goodIn_of _ (by decide +kernel)) ggL_undo_X4_undo
theorem dL_undo_0 : decode cL_undo 0 = .ok (.aload_n 1, 1) := by decide +kernel
theorem dL_undo_1 : decode cL_undo 1 = .ok (.iconst 0, 1) := by decide +kernel
theorem dL_undo_2 : decode cL_undo 2 = .ok (.aload_n 0, 1) := by decide +kernel
theorem dL_undo_3 : decode cL_undo 3 = .ok (.invokevirtual 98, 3) := by decide +kernel
theorem dL_undo_6 : decode cL_undo 6 = .ok (.i2l, 1) := by decide +kernel
theorem dL_undo_7 : decode cL_undo 7 = .ok (.lastore, 1) := by decide +kernel
theorem dL_undo_8 : decode cL_undo 8 = .ok (.goto 6, 3) := by decide +kernel
theorem dL_undo_11 : decode cL_undo 11 = .ok (.astore_n 2, 1) := by decide +kernel
theorem dL_undo_12 : decode cL_undo 12 = .ok (.iconst 1, 1) := by decide +kernel
theorem dL_undo_13 : decode cL_undo 13 = .ok (.ireturn, 1) := by decide +kernel
theorem dL_undo_14 : decode cL_undo 14 = .ok (.iconst 0, 1) := by decide +kernel
theorem dL_undo_15 : decode cL_undo 15 = .ok (.ireturn, 1) := by decide +kernel
abbrev vwCl : List vw_C := [(RX0, TX0, 10), (RX1, TX1, 3), (RX2, TX2, 3), (RX3, TX3, 14), (RX4, TX4, 5), (RX5, TX5, 6)]
