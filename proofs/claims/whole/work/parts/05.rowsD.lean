set_option maxRecDepth 20000 in
theorem ggX4_protect_X4_undo : GoodIn wsX4_protect wsX4_undo := goodIn_r _ [11, 6, 12, 28, 29, 30, 31, 32, 33, 34, 35, 36, 37, 38, 39, 40, 41, 42, 43, 44] (by decide +kernel) (by decide +kernel)
set_option maxRecDepth 20000 in
theorem gX4_protect_X4_undo : GoodIn wsX4_protect (wsV RX4 55 RX4 yX4_undo wsX4_undo) := goodIn_app (goodIn_of _ (by decide +kernel)) ggX4_protect_X4_undo
set_option maxRecDepth 20000 in
theorem ggX4_protect_X4_whole : GoodIn wsX4_protect wsX4_whole := goodIn_r _ [16, 1, 4, 28, 29, 30, 31, 32, 33, 34, 35, 36, 37, 38, 39, 40, 41, 42, 43, 44] (by decide +kernel) (by decide +kernel)
set_option maxRecDepth 20000 in
theorem gX4_protect_X4_whole : GoodIn wsX4_protect (wsV RX4 61 RX4 yX4_whole wsX4_whole) := goodIn_app (goodIn_of _ (by decide +kernel)) ggX4_protect_X4_whole
set_option maxRecDepth 20000 in
theorem ggX4_protect_X4_classes : GoodIn wsX4_protect wsX4_classes := goodIn_r _ [20, 3, 5, 21, 22, 23, 28, 29, 30, 31, 32, 33, 34, 35, 36, 37, 38, 39, 40, 41, 42, 43, 44] (by decide +kernel) (by decide +kernel)
set_option maxRecDepth 20000 in
theorem gX4_protect_X4_classes : GoodIn wsX4_protect (wsV RX4 65 RX4 yX4_classes wsX4_classes) := goodIn_app (goodIn_of _ (by decide +kernel)) ggX4_protect_X4_classes
set_option maxRecDepth 20000 in
theorem ggX4_protect_X4_put : GoodIn wsX4_protect wsX4_put := goodIn_r _ [27, 4, 6, 28, 29, 30, 31, 32, 33, 34, 35, 36, 37, 38, 39, 40, 41, 42, 43, 44] (by decide +kernel) (by decide +kernel)
set_option maxRecDepth 20000 in
theorem gX4_protect_X4_put : GoodIn wsX4_protect (wsV RX4 68 RX4 yX4_put wsX4_put) := goodIn_app (goodIn_of _ (by decide +kernel)) ggX4_protect_X4_put
theorem dX4_protect_0 : decode cX4_protect 0 = .ok (.aload_n 0, 1) := by decide +kernel
theorem dX4_protect_1 : decode cX4_protect 1 = .ok (.invokevirtual 55, 3) := by decide +kernel
theorem dX4_protect_4 : decode cX4_protect 4 = .ok (.aload_n 0, 1) := by decide +kernel
theorem dX4_protect_5 : decode cX4_protect 5 = .ok (.invokevirtual 61, 3) := by decide +kernel
theorem dX4_protect_8 : decode cX4_protect 8 = .ok (.ifCond .ne 5, 3) := by decide +kernel
theorem dX4_protect_11 : decode cX4_protect 11 = .ok (.iconst (-1), 1) := by decide +kernel
theorem dX4_protect_12 : decode cX4_protect 12 = .ok (.ireturn, 1) := by decide +kernel
theorem dX4_protect_13 : decode cX4_protect 13 = .ok (.aload_n 0, 1) := by decide +kernel
theorem dX4_protect_14 : decode cX4_protect 14 = .ok (.invokevirtual 65, 3) := by decide +kernel
theorem dX4_protect_17 : decode cX4_protect 17 = .ok (.iconst 0, 1) := by decide +kernel
theorem dX4_protect_18 : decode cX4_protect 18 = .ok (.istore_n 1, 1) := by decide +kernel
theorem dX4_protect_19 : decode cX4_protect 19 = .ok (.iconst 0, 1) := by decide +kernel
theorem dX4_protect_20 : decode cX4_protect 20 = .ok (.istore_n 2, 1) := by decide +kernel
theorem dX4_protect_21 : decode cX4_protect 21 = .ok (.iload_n 2, 1) := by decide +kernel
theorem dX4_protect_22 : decode cX4_protect 22 = .ok (.aload_n 0, 1) := by decide +kernel
theorem dX4_protect_23 : decode cX4_protect 23 = .ok (.getfield 52, 3) := by decide +kernel
theorem dX4_protect_26 : decode cX4_protect 26 = .ok (.if_icmp .ge 54, 3) := by decide +kernel
theorem dX4_protect_29 : decode cX4_protect 29 = .ok (.aload_n 0, 1) := by decide +kernel
theorem dX4_protect_30 : decode cX4_protect 30 = .ok (.getfield 25, 3) := by decide +kernel
theorem dX4_protect_33 : decode cX4_protect 33 = .ok (.iload_n 2, 1) := by decide +kernel
theorem dX4_protect_34 : decode cX4_protect 34 = .ok (.iload_n 1, 1) := by decide +kernel
theorem dX4_protect_35 : decode cX4_protect 35 = .ok (.iastore, 1) := by decide +kernel
theorem dX4_protect_36 : decode cX4_protect 36 = .ok (.iload_n 1, 1) := by decide +kernel
theorem dX4_protect_37 : decode cX4_protect 37 = .ok (.iconst 1, 1) := by decide +kernel
theorem dX4_protect_38 : decode cX4_protect 38 = .ok (.iadd, 1) := by decide +kernel
theorem dX4_protect_39 : decode cX4_protect 39 = .ok (.aload_n 0, 1) := by decide +kernel
theorem dX4_protect_40 : decode cX4_protect 40 = .ok (.getfield 19, 3) := by decide +kernel
theorem dX4_protect_43 : decode cX4_protect 43 = .ok (.iload_n 2, 1) := by decide +kernel
theorem dX4_protect_44 : decode cX4_protect 44 = .ok (.iaload, 1) := by decide +kernel
theorem dX4_protect_45 : decode cX4_protect 45 = .ok (.ifCond .le 7, 3) := by decide +kernel
theorem dX4_protect_48 : decode cX4_protect 48 = .ok (.iconst 1, 1) := by decide +kernel
theorem dX4_protect_49 : decode cX4_protect 49 = .ok (.goto 4, 3) := by decide +kernel
theorem dX4_protect_52 : decode cX4_protect 52 = .ok (.iconst 0, 1) := by decide +kernel
theorem dX4_protect_53 : decode cX4_protect 53 = .ok (.iadd, 1) := by decide +kernel
theorem dX4_protect_54 : decode cX4_protect 54 = .ok (.aload_n 0, 1) := by decide +kernel
theorem dX4_protect_55 : decode cX4_protect 55 = .ok (.getfield 7, 3) := by decide +kernel
theorem dX4_protect_58 : decode cX4_protect 58 = .ok (.iconst 3, 1) := by decide +kernel
theorem dX4_protect_59 : decode cX4_protect 59 = .ok (.iload_n 2, 1) := by decide +kernel
theorem dX4_protect_60 : decode cX4_protect 60 = .ok (.imul, 1) := by decide +kernel
theorem dX4_protect_61 : decode cX4_protect 61 = .ok (.iaload, 1) := by decide +kernel
theorem dX4_protect_62 : decode cX4_protect 62 = .ok (.bipush 8, 2) := by decide +kernel
theorem dX4_protect_64 : decode cX4_protect 64 = .ok (.if_icmp .ne 7, 3) := by decide +kernel
theorem dX4_protect_67 : decode cX4_protect 67 = .ok (.iconst 1, 1) := by decide +kernel
theorem dX4_protect_68 : decode cX4_protect 68 = .ok (.goto 4, 3) := by decide +kernel
theorem dX4_protect_71 : decode cX4_protect 71 = .ok (.iconst 0, 1) := by decide +kernel
theorem dX4_protect_72 : decode cX4_protect 72 = .ok (.iadd, 1) := by decide +kernel
theorem dX4_protect_73 : decode cX4_protect 73 = .ok (.istore_n 1, 1) := by decide +kernel
theorem dX4_protect_74 : decode cX4_protect 74 = .ok (.iinc 2 1, 3) := by decide +kernel
theorem dX4_protect_77 : decode cX4_protect 77 = .ok (.goto (-56), 3) := by decide +kernel
theorem dX4_protect_80 : decode cX4_protect 80 = .ok (.iconst 0, 1) := by decide +kernel
theorem dX4_protect_81 : decode cX4_protect 81 = .ok (.istore_n 2, 1) := by decide +kernel
theorem dX4_protect_82 : decode cX4_protect 82 = .ok (.iload_n 2, 1) := by decide +kernel
theorem dX4_protect_83 : decode cX4_protect 83 = .ok (.aload_n 0, 1) := by decide +kernel
theorem dX4_protect_84 : decode cX4_protect 84 = .ok (.getfield 52, 3) := by decide +kernel
theorem dX4_protect_87 : decode cX4_protect 87 = .ok (.if_icmp .ge 145, 3) := by decide +kernel
theorem dX4_protect_90 : decode cX4_protect 90 = .ok (.aload_n 0, 1) := by decide +kernel
theorem dX4_protect_91 : decode cX4_protect 91 = .ok (.getfield 7, 3) := by decide +kernel
theorem dX4_protect_94 : decode cX4_protect 94 = .ok (.iconst 3, 1) := by decide +kernel
theorem dX4_protect_95 : decode cX4_protect 95 = .ok (.iload_n 2, 1) := by decide +kernel
theorem dX4_protect_96 : decode cX4_protect 96 = .ok (.imul, 1) := by decide +kernel
theorem dX4_protect_97 : decode cX4_protect 97 = .ok (.iaload, 1) := by decide +kernel
theorem dX4_protect_98 : decode cX4_protect 98 = .ok (.istore_n 3, 1) := by decide +kernel
theorem dX4_protect_99 : decode cX4_protect 99 = .ok (.aload_n 0, 1) := by decide +kernel
theorem dX4_protect_100 : decode cX4_protect 100 = .ok (.getfield 7, 3) := by decide +kernel
theorem dX4_protect_103 : decode cX4_protect 103 = .ok (.iconst 3, 1) := by decide +kernel
theorem dX4_protect_104 : decode cX4_protect 104 = .ok (.iload_n 2, 1) := by decide +kernel
theorem dX4_protect_105 : decode cX4_protect 105 = .ok (.imul, 1) := by decide +kernel
theorem dX4_protect_106 : decode cX4_protect 106 = .ok (.iconst 1, 1) := by decide +kernel
theorem dX4_protect_107 : decode cX4_protect 107 = .ok (.iadd, 1) := by decide +kernel
theorem dX4_protect_108 : decode cX4_protect 108 = .ok (.iaload, 1) := by decide +kernel
theorem dX4_protect_109 : decode cX4_protect 109 = .ok (.istore 4, 2) := by decide +kernel
theorem dX4_protect_111 : decode cX4_protect 111 = .ok (.aload_n 0, 1) := by decide +kernel
theorem dX4_protect_112 : decode cX4_protect 112 = .ok (.getfield 7, 3) := by decide +kernel
theorem dX4_protect_115 : decode cX4_protect 115 = .ok (.iconst 3, 1) := by decide +kernel
theorem dX4_protect_116 : decode cX4_protect 116 = .ok (.iload_n 2, 1) := by decide +kernel
theorem dX4_protect_117 : decode cX4_protect 117 = .ok (.imul, 1) := by decide +kernel
theorem dX4_protect_118 : decode cX4_protect 118 = .ok (.iconst 2, 1) := by decide +kernel
theorem dX4_protect_119 : decode cX4_protect 119 = .ok (.iadd, 1) := by decide +kernel
theorem dX4_protect_120 : decode cX4_protect 120 = .ok (.iaload, 1) := by decide +kernel
theorem dX4_protect_121 : decode cX4_protect 121 = .ok (.istore 5, 2) := by decide +kernel
theorem dX4_protect_123 : decode cX4_protect 123 = .ok (.aload_n 0, 1) := by decide +kernel
theorem dX4_protect_124 : decode cX4_protect 124 = .ok (.getfield 19, 3) := by decide +kernel
theorem dX4_protect_127 : decode cX4_protect 127 = .ok (.iload_n 2, 1) := by decide +kernel
theorem dX4_protect_128 : decode cX4_protect 128 = .ok (.iaload, 1) := by decide +kernel
theorem dX4_protect_129 : decode cX4_protect 129 = .ok (.ifCond .le 16, 3) := by decide +kernel
theorem dX4_protect_132 : decode cX4_protect 132 = .ok (.aload_n 0, 1) := by decide +kernel
theorem dX4_protect_133 : decode cX4_protect 133 = .ok (.bipush 10, 2) := by decide +kernel
theorem dX4_protect_135 : decode cX4_protect 135 = .ok (.aload_n 0, 1) := by decide +kernel
theorem dX4_protect_136 : decode cX4_protect 136 = .ok (.getfield 19, 3) := by decide +kernel
theorem dX4_protect_139 : decode cX4_protect 139 = .ok (.iload_n 2, 1) := by decide +kernel
theorem dX4_protect_140 : decode cX4_protect 140 = .ok (.iaload, 1) := by decide +kernel
theorem dX4_protect_141 : decode cX4_protect 141 = .ok (.iconst 0, 1) := by decide +kernel
theorem dX4_protect_142 : decode cX4_protect 142 = .ok (.invokevirtual 68, 3) := by decide +kernel
theorem dX4_protect_145 : decode cX4_protect 145 = .ok (.iload_n 3, 1) := by decide +kernel
theorem dX4_protect_146 : decode cX4_protect 146 = .ok (.bipush 8, 2) := by decide +kernel
theorem dX4_protect_148 : decode cX4_protect 148 = .ok (.if_icmp .ne 17, 3) := by decide +kernel
theorem dX4_protect_151 : decode cX4_protect 151 = .ok (.aload_n 0, 1) := by decide +kernel
theorem dX4_protect_152 : decode cX4_protect 152 = .ok (.bipush 11, 2) := by decide +kernel
theorem dX4_protect_154 : decode cX4_protect 154 = .ok (.iload 4, 2) := by decide +kernel
theorem dX4_protect_156 : decode cX4_protect 156 = .ok (.aload_n 0, 1) := by decide +kernel
theorem dX4_protect_157 : decode cX4_protect 157 = .ok (.getfield 22, 3) := by decide +kernel
theorem dX4_protect_160 : decode cX4_protect 160 = .ok (.iload_n 2, 1) := by decide +kernel
theorem dX4_protect_161 : decode cX4_protect 161 = .ok (.iaload, 1) := by decide +kernel
theorem dX4_protect_162 : decode cX4_protect 162 = .ok (.invokevirtual 68, 3) := by decide +kernel
theorem dX4_protect_165 : decode cX4_protect 165 = .ok (.iload_n 3, 1) := by decide +kernel
theorem dX4_protect_166 : decode cX4_protect 166 = .ok (.bipush 6, 2) := by decide +kernel
theorem dX4_protect_168 : decode cX4_protect 168 = .ok (.if_icmp .ne 20, 3) := by decide +kernel
theorem dX4_protect_171 : decode cX4_protect 171 = .ok (.aload_n 0, 1) := by decide +kernel
theorem dX4_protect_172 : decode cX4_protect 172 = .ok (.iload_n 3, 1) := by decide +kernel
theorem dX4_protect_173 : decode cX4_protect 173 = .ok (.aload_n 0, 1) := by decide +kernel
theorem dX4_protect_174 : decode cX4_protect 174 = .ok (.getfield 25, 3) := by decide +kernel
theorem dX4_protect_177 : decode cX4_protect 177 = .ok (.iload 4, 2) := by decide +kernel
theorem dX4_protect_179 : decode cX4_protect 179 = .ok (.iaload, 1) := by decide +kernel
theorem dX4_protect_180 : decode cX4_protect 180 = .ok (.iload 5, 2) := by decide +kernel
theorem dX4_protect_182 : decode cX4_protect 182 = .ok (.invokevirtual 68, 3) := by decide +kernel
theorem dX4_protect_185 : decode cX4_protect 185 = .ok (.goto 41, 3) := by decide +kernel
theorem dX4_protect_188 : decode cX4_protect 188 = .ok (.iload_n 3, 1) := by decide +kernel
theorem dX4_protect_189 : decode cX4_protect 189 = .ok (.bipush 7, 2) := by decide +kernel
theorem dX4_protect_191 : decode cX4_protect 191 = .ok (.if_icmp .eq 9, 3) := by decide +kernel
theorem dX4_protect_194 : decode cX4_protect 194 = .ok (.iload_n 3, 1) := by decide +kernel
theorem dX4_protect_195 : decode cX4_protect 195 = .ok (.bipush 9, 2) := by decide +kernel
theorem dX4_protect_197 : decode cX4_protect 197 = .ok (.if_icmp .ne 20, 3) := by decide +kernel
theorem dX4_protect_200 : decode cX4_protect 200 = .ok (.aload_n 0, 1) := by decide +kernel
theorem dX4_protect_201 : decode cX4_protect 201 = .ok (.iload_n 3, 1) := by decide +kernel
theorem dX4_protect_202 : decode cX4_protect 202 = .ok (.iload 4, 2) := by decide +kernel
theorem dX4_protect_204 : decode cX4_protect 204 = .ok (.aload_n 0, 1) := by decide +kernel
theorem dX4_protect_205 : decode cX4_protect 205 = .ok (.getfield 25, 3) := by decide +kernel
theorem dX4_protect_208 : decode cX4_protect 208 = .ok (.iload 5, 2) := by decide +kernel
theorem dX4_protect_210 : decode cX4_protect 210 = .ok (.iaload, 1) := by decide +kernel
theorem dX4_protect_211 : decode cX4_protect 211 = .ok (.invokevirtual 68, 3) := by decide +kernel
theorem dX4_protect_214 : decode cX4_protect 214 = .ok (.goto 12, 3) := by decide +kernel
theorem dX4_protect_217 : decode cX4_protect 217 = .ok (.aload_n 0, 1) := by decide +kernel
theorem dX4_protect_218 : decode cX4_protect 218 = .ok (.iload_n 3, 1) := by decide +kernel
theorem dX4_protect_219 : decode cX4_protect 219 = .ok (.iload 4, 2) := by decide +kernel
theorem dX4_protect_221 : decode cX4_protect 221 = .ok (.iload 5, 2) := by decide +kernel
theorem dX4_protect_223 : decode cX4_protect 223 = .ok (.invokevirtual 68, 3) := by decide +kernel
theorem dX4_protect_226 : decode cX4_protect 226 = .ok (.iinc 2 1, 3) := by decide +kernel
theorem dX4_protect_229 : decode cX4_protect 229 = .ok (.goto (-147), 3) := by decide +kernel
theorem dX4_protect_232 : decode cX4_protect 232 = .ok (.aload_n 0, 1) := by decide +kernel
theorem dX4_protect_233 : decode cX4_protect 233 = .ok (.getfield 45, 3) := by decide +kernel
theorem dX4_protect_236 : decode cX4_protect 236 = .ok (.ireturn, 1) := by decide +kernel
set_option maxRecDepth 20000 in
theorem ggX4_source_X4_within : GoodIn wsX4_source wsX4_within := goodIn_r _ [6] (by decide +kernel) (by decide +kernel)
set_option maxRecDepth 20000 in
theorem gX4_source_X4_within : GoodIn wsX4_source (va_wsS RX4 41 yX4_within wsX4_within) := goodIn_app (goodIn_of _ (by decide +kernel)) ggX4_source_X4_within
theorem dX4_source_0 : decode cX4_source 0 = .ok (.iload_n 1, 1) := by decide +kernel
theorem dX4_source_1 : decode cX4_source 1 = .ok (.aload_n 0, 1) := by decide +kernel
theorem dX4_source_2 : decode cX4_source 2 = .ok (.getfield 52, 3) := by decide +kernel
theorem dX4_source_5 : decode cX4_source 5 = .ok (.iconst 1, 1) := by decide +kernel
theorem dX4_source_6 : decode cX4_source 6 = .ok (.isub, 1) := by decide +kernel
theorem dX4_source_7 : decode cX4_source 7 = .ok (.invokestatic 41, 3) := by decide +kernel
theorem dX4_source_10 : decode cX4_source 10 = .ok (.ifCond .eq 24, 3) := by decide +kernel
theorem dX4_source_13 : decode cX4_source 13 = .ok (.iload_n 2, 1) := by decide +kernel
theorem dX4_source_14 : decode cX4_source 14 = .ok (.iconst 2, 1) := by decide +kernel
theorem dX4_source_15 : decode cX4_source 15 = .ok (.invokestatic 41, 3) := by decide +kernel
theorem dX4_source_18 : decode cX4_source 18 = .ok (.ifCond .eq 16, 3) := by decide +kernel
theorem dX4_source_21 : decode cX4_source 21 = .ok (.aload_n 0, 1) := by decide +kernel
theorem dX4_source_22 : decode cX4_source 22 = .ok (.getfield 7, 3) := by decide +kernel
theorem dX4_source_25 : decode cX4_source 25 = .ok (.iconst 3, 1) := by decide +kernel
theorem dX4_source_26 : decode cX4_source 26 = .ok (.iload_n 1, 1) := by decide +kernel
theorem dX4_source_27 : decode cX4_source 27 = .ok (.imul, 1) := by decide +kernel
theorem dX4_source_28 : decode cX4_source 28 = .ok (.iload_n 2, 1) := by decide +kernel
theorem dX4_source_29 : decode cX4_source 29 = .ok (.iadd, 1) := by decide +kernel
theorem dX4_source_30 : decode cX4_source 30 = .ok (.iaload, 1) := by decide +kernel
theorem dX4_source_31 : decode cX4_source 31 = .ok (.goto 5, 3) := by decide +kernel
theorem dX4_source_34 : decode cX4_source 34 = .ok (.bipush (-9), 2) := by decide +kernel
theorem dX4_source_36 : decode cX4_source 36 = .ok (.ireturn, 1) := by decide +kernel
set_option maxRecDepth 20000 in
theorem ggX4_guarded_X4_within : GoodIn wsX4_guarded wsX4_within := goodIn_r _ [6] (by decide +kernel) (by decide +kernel)
set_option maxRecDepth 20000 in
theorem gX4_guarded_X4_within : GoodIn wsX4_guarded (va_wsS RX4 41 yX4_within wsX4_within) := goodIn_app (goodIn_of _ (by decide +kernel)) ggX4_guarded_X4_within
theorem dX4_guarded_0 : decode cX4_guarded 0 = .ok (.iload_n 1, 1) := by decide +kernel
theorem dX4_guarded_1 : decode cX4_guarded 1 = .ok (.aload_n 0, 1) := by decide +kernel
theorem dX4_guarded_2 : decode cX4_guarded 2 = .ok (.getfield 45, 3) := by decide +kernel
theorem dX4_guarded_5 : decode cX4_guarded 5 = .ok (.iconst 1, 1) := by decide +kernel
theorem dX4_guarded_6 : decode cX4_guarded 6 = .ok (.isub, 1) := by decide +kernel
theorem dX4_guarded_7 : decode cX4_guarded 7 = .ok (.invokestatic 41, 3) := by decide +kernel
theorem dX4_guarded_10 : decode cX4_guarded 10 = .ok (.ifCond .eq 27, 3) := by decide +kernel
theorem dX4_guarded_13 : decode cX4_guarded 13 = .ok (.iload_n 2, 1) := by decide +kernel
theorem dX4_guarded_14 : decode cX4_guarded 14 = .ok (.iconst 2, 1) := by decide +kernel
theorem dX4_guarded_15 : decode cX4_guarded 15 = .ok (.invokestatic 41, 3) := by decide +kernel
theorem dX4_guarded_18 : decode cX4_guarded 18 = .ok (.ifCond .eq 19, 3) := by decide +kernel
theorem dX4_guarded_21 : decode cX4_guarded 21 = .ok (.aload_n 0, 1) := by decide +kernel
theorem dX4_guarded_22 : decode cX4_guarded 22 = .ok (.getfield 7, 3) := by decide +kernel
theorem dX4_guarded_25 : decode cX4_guarded 25 = .ok (.bipush 72, 2) := by decide +kernel
theorem dX4_guarded_27 : decode cX4_guarded 27 = .ok (.iconst 3, 1) := by decide +kernel
theorem dX4_guarded_28 : decode cX4_guarded 28 = .ok (.iload_n 1, 1) := by decide +kernel
theorem dX4_guarded_29 : decode cX4_guarded 29 = .ok (.imul, 1) := by decide +kernel
theorem dX4_guarded_30 : decode cX4_guarded 30 = .ok (.iadd, 1) := by decide +kernel
theorem dX4_guarded_31 : decode cX4_guarded 31 = .ok (.iload_n 2, 1) := by decide +kernel
theorem dX4_guarded_32 : decode cX4_guarded 32 = .ok (.iadd, 1) := by decide +kernel
theorem dX4_guarded_33 : decode cX4_guarded 33 = .ok (.iaload, 1) := by decide +kernel
theorem dX4_guarded_34 : decode cX4_guarded 34 = .ok (.goto 5, 3) := by decide +kernel
theorem dX4_guarded_37 : decode cX4_guarded 37 = .ok (.bipush (-9), 2) := by decide +kernel
theorem dX4_guarded_39 : decode cX4_guarded 39 = .ok (.ireturn, 1) := by decide +kernel
set_option maxRecDepth 20000 in
theorem ggX4_place_X4_within : GoodIn wsX4_place wsX4_within := goodIn_r _ [7] (by decide +kernel) (by decide +kernel)
set_option maxRecDepth 20000 in
theorem gX4_place_X4_within : GoodIn wsX4_place (va_wsS RX4 41 yX4_within wsX4_within) := goodIn_app (goodIn_of _ (by decide +kernel)) ggX4_place_X4_within
theorem dX4_place_0 : decode cX4_place 0 = .ok (.iload_n 1, 1) := by decide +kernel
theorem dX4_place_1 : decode cX4_place 1 = .ok (.aload_n 0, 1) := by decide +kernel
theorem dX4_place_2 : decode cX4_place 2 = .ok (.getfield 52, 3) := by decide +kernel
theorem dX4_place_5 : decode cX4_place 5 = .ok (.iconst 1, 1) := by decide +kernel
theorem dX4_place_6 : decode cX4_place 6 = .ok (.isub, 1) := by decide +kernel
theorem dX4_place_7 : decode cX4_place 7 = .ok (.invokestatic 41, 3) := by decide +kernel
theorem dX4_place_10 : decode cX4_place 10 = .ok (.ifCond .eq 19, 3) := by decide +kernel
theorem dX4_place_13 : decode cX4_place 13 = .ok (.aload_n 0, 1) := by decide +kernel
theorem dX4_place_14 : decode cX4_place 14 = .ok (.getfield 45, 3) := by decide +kernel
theorem dX4_place_17 : decode cX4_place 17 = .ok (.ifCond .le 12, 3) := by decide +kernel
theorem dX4_place_20 : decode cX4_place 20 = .ok (.aload_n 0, 1) := by decide +kernel
theorem dX4_place_21 : decode cX4_place 21 = .ok (.getfield 25, 3) := by decide +kernel
theorem dX4_place_24 : decode cX4_place 24 = .ok (.iload_n 1, 1) := by decide +kernel
theorem dX4_place_25 : decode cX4_place 25 = .ok (.iaload, 1) := by decide +kernel
theorem dX4_place_26 : decode cX4_place 26 = .ok (.goto 4, 3) := by decide +kernel
theorem dX4_place_29 : decode cX4_place 29 = .ok (.iconst (-1), 1) := by decide +kernel
theorem dX4_place_30 : decode cX4_place 30 = .ok (.ireturn, 1) := by decide +kernel
set_option maxRecDepth 20000 in
theorem ggX4_label_X4_within : GoodIn wsX4_label wsX4_within := goodIn_r _ [6] (by decide +kernel) (by decide +kernel)
set_option maxRecDepth 20000 in
theorem gX4_label_X4_within : GoodIn wsX4_label (va_wsS RX4 41 yX4_within wsX4_within) := goodIn_app (goodIn_of _ (by decide +kernel)) ggX4_label_X4_within
set_option maxRecDepth 20000 in
theorem ggX4_label_X4_classes : GoodIn wsX4_label wsX4_classes := goodIn_r _ [10, 2, 11, 12, 13, 14, 15, 16, 17, 18, 19, 20, 21, 22, 23, 24, 25, 26, 27, 28, 29, 30, 31] (by decide +kernel) (by decide +kernel)
set_option maxRecDepth 20000 in
theorem gX4_label_X4_classes : GoodIn wsX4_label (wsV RX4 65 RX4 yX4_classes wsX4_classes) := goodIn_app (goodIn_of _ (by decide +kernel)) ggX4_label_X4_classes
theorem dX4_label_0 : decode cX4_label 0 = .ok (.iload_n 1, 1) := by decide +kernel
theorem dX4_label_1 : decode cX4_label 1 = .ok (.aload_n 0, 1) := by decide +kernel
theorem dX4_label_2 : decode cX4_label 2 = .ok (.getfield 52, 3) := by decide +kernel
theorem dX4_label_5 : decode cX4_label 5 = .ok (.iconst 1, 1) := by decide +kernel
theorem dX4_label_6 : decode cX4_label 6 = .ok (.isub, 1) := by decide +kernel
theorem dX4_label_7 : decode cX4_label 7 = .ok (.invokestatic 41, 3) := by decide +kernel
theorem dX4_label_10 : decode cX4_label 10 = .ok (.ifCond .ne 5, 3) := by decide +kernel
theorem dX4_label_13 : decode cX4_label 13 = .ok (.iconst (-1), 1) := by decide +kernel
theorem dX4_label_14 : decode cX4_label 14 = .ok (.ireturn, 1) := by decide +kernel
theorem dX4_label_15 : decode cX4_label 15 = .ok (.aload_n 0, 1) := by decide +kernel
theorem dX4_label_16 : decode cX4_label 16 = .ok (.invokevirtual 65, 3) := by decide +kernel
theorem dX4_label_19 : decode cX4_label 19 = .ok (.aload_n 0, 1) := by decide +kernel
theorem dX4_label_20 : decode cX4_label 20 = .ok (.getfield 19, 3) := by decide +kernel
theorem dX4_label_23 : decode cX4_label 23 = .ok (.iload_n 1, 1) := by decide +kernel
theorem dX4_label_24 : decode cX4_label 24 = .ok (.iaload, 1) := by decide +kernel
theorem dX4_label_25 : decode cX4_label 25 = .ok (.ireturn, 1) := by decide +kernel
theorem dX4_start_0 : decode cX4_start 0 = .ok (.aload_n 0, 1) := by decide +kernel
theorem dX4_start_1 : decode cX4_start 1 = .ok (.getfield 45, 3) := by decide +kernel
theorem dX4_start_4 : decode cX4_start 4 = .ok (.ifCond .ne 5, 3) := by decide +kernel
theorem dX4_start_7 : decode cX4_start 7 = .ok (.iconst 0, 1) := by decide +kernel
theorem dX4_start_8 : decode cX4_start 8 = .ok (.ireturn, 1) := by decide +kernel
theorem dX4_start_9 : decode cX4_start 9 = .ok (.aload_n 0, 1) := by decide +kernel
theorem dX4_start_10 : decode cX4_start 10 = .ok (.iload_n 1, 1) := by decide +kernel
theorem dX4_start_11 : decode cX4_start 11 = .ok (.ifCond .eq 8, 3) := by decide +kernel
theorem dX4_start_14 : decode cX4_start 14 = .ok (.bipush 72, 2) := by decide +kernel
theorem dX4_start_16 : decode cX4_start 16 = .ok (.goto 4, 3) := by decide +kernel
theorem dX4_start_19 : decode cX4_start 19 = .ok (.iconst 0, 1) := by decide +kernel
theorem dX4_start_20 : decode cX4_start 20 = .ok (.putfield 72, 3) := by decide +kernel
theorem dX4_start_23 : decode cX4_start 23 = .ok (.aload_n 0, 1) := by decide +kernel
theorem dX4_start_24 : decode cX4_start 24 = .ok (.iload_n 1, 1) := by decide +kernel
theorem dX4_start_25 : decode cX4_start 25 = .ok (.ifCond .eq 10, 3) := by decide +kernel
theorem dX4_start_28 : decode cX4_start 28 = .ok (.aload_n 0, 1) := by decide +kernel
theorem dX4_start_29 : decode cX4_start 29 = .ok (.getfield 45, 3) := by decide +kernel
theorem dX4_start_32 : decode cX4_start 32 = .ok (.goto 7, 3) := by decide +kernel
theorem dX4_start_35 : decode cX4_start 35 = .ok (.aload_n 0, 1) := by decide +kernel
theorem dX4_start_36 : decode cX4_start 36 = .ok (.getfield 52, 3) := by decide +kernel
theorem dX4_start_39 : decode cX4_start 39 = .ok (.putfield 75, 3) := by decide +kernel
theorem dX4_start_42 : decode cX4_start 42 = .ok (.iconst 0, 1) := by decide +kernel
theorem dX4_start_43 : decode cX4_start 43 = .ok (.istore_n 2, 1) := by decide +kernel
theorem dX4_start_44 : decode cX4_start 44 = .ok (.iload_n 2, 1) := by decide +kernel
theorem dX4_start_45 : decode cX4_start 45 = .ok (.iconst 4, 1) := by decide +kernel
theorem dX4_start_46 : decode cX4_start 46 = .ok (.if_icmp .ge 16, 3) := by decide +kernel
theorem dX4_start_49 : decode cX4_start 49 = .ok (.aload_n 0, 1) := by decide +kernel
theorem dX4_start_50 : decode cX4_start 50 = .ok (.getfield 28, 3) := by decide +kernel
theorem dX4_start_53 : decode cX4_start 53 = .ok (.iload_n 2, 1) := by decide +kernel
theorem dX4_start_54 : decode cX4_start 54 = .ok (.iconst 0, 1) := by decide +kernel
theorem dX4_start_55 : decode cX4_start 55 = .ok (.iastore, 1) := by decide +kernel
theorem dX4_start_56 : decode cX4_start 56 = .ok (.iinc 2 1, 3) := by decide +kernel
theorem dX4_start_59 : decode cX4_start 59 = .ok (.goto (-15), 3) := by decide +kernel
theorem dX4_start_62 : decode cX4_start 62 = .ok (.iconst 0, 1) := by decide +kernel
theorem dX4_start_63 : decode cX4_start 63 = .ok (.istore_n 2, 1) := by decide +kernel
theorem dX4_start_64 : decode cX4_start 64 = .ok (.iload_n 2, 1) := by decide +kernel
theorem dX4_start_65 : decode cX4_start 65 = .ok (.bipush 16, 2) := by decide +kernel
theorem dX4_start_67 : decode cX4_start 67 = .ok (.if_icmp .ge 16, 3) := by decide +kernel
theorem dX4_start_70 : decode cX4_start 70 = .ok (.aload_n 0, 1) := by decide +kernel
theorem dX4_start_71 : decode cX4_start 71 = .ok (.getfield 31, 3) := by decide +kernel
theorem dX4_start_74 : decode cX4_start 74 = .ok (.iload_n 2, 1) := by decide +kernel
theorem dX4_start_75 : decode cX4_start 75 = .ok (.iconst 0, 1) := by decide +kernel
theorem dX4_start_76 : decode cX4_start 76 = .ok (.iastore, 1) := by decide +kernel
theorem dX4_start_77 : decode cX4_start 77 = .ok (.iinc 2 1, 3) := by decide +kernel
theorem dX4_start_80 : decode cX4_start 80 = .ok (.goto (-16), 3) := by decide +kernel
theorem dX4_start_83 : decode cX4_start 83 = .ok (.aload_n 0, 1) := by decide +kernel
theorem dX4_start_84 : decode cX4_start 84 = .ok (.iconst 0, 1) := by decide +kernel
theorem dX4_start_85 : decode cX4_start 85 = .ok (.putfield 78, 3) := by decide +kernel
theorem dX4_start_88 : decode cX4_start 88 = .ok (.aload_n 0, 1) := by decide +kernel
theorem dX4_start_89 : decode cX4_start 89 = .ok (.iconst 0, 1) := by decide +kernel
theorem dX4_start_90 : decode cX4_start 90 = .ok (.putfield 37, 3) := by decide +kernel
theorem dX4_start_93 : decode cX4_start 93 = .ok (.aload_n 0, 1) := by decide +kernel
theorem dX4_start_94 : decode cX4_start 94 = .ok (.iconst 0, 1) := by decide +kernel
theorem dX4_start_95 : decode cX4_start 95 = .ok (.putfield 81, 3) := by decide +kernel
theorem dX4_start_98 : decode cX4_start 98 = .ok (.iconst 1, 1) := by decide +kernel
theorem dX4_start_99 : decode cX4_start 99 = .ok (.ireturn, 1) := by decide +kernel
set_option maxRecDepth 20000 in
theorem ggX4_step_X4_within : GoodIn wsX4_step wsX4_within := goodIn_r _ [13] (by decide +kernel) (by decide +kernel)
set_option maxRecDepth 20000 in
theorem gX4_step_X4_within : GoodIn wsX4_step (va_wsS RX4 41 yX4_within wsX4_within) := goodIn_app (goodIn_of _ (by decide +kernel)) ggX4_step_X4_within
theorem dX4_step_0 : decode cX4_step 0 = .ok (.aload_n 0, 1) := by decide +kernel
theorem dX4_step_1 : decode cX4_step 1 = .ok (.getfield 7, 3) := by decide +kernel
theorem dX4_step_4 : decode cX4_step 4 = .ok (.aload_n 0, 1) := by decide +kernel
theorem dX4_step_5 : decode cX4_step 5 = .ok (.getfield 72, 3) := by decide +kernel
theorem dX4_step_8 : decode cX4_step 8 = .ok (.iconst 3, 1) := by decide +kernel
theorem dX4_step_9 : decode cX4_step 9 = .ok (.aload_n 0, 1) := by decide +kernel
theorem dX4_step_10 : decode cX4_step 10 = .ok (.getfield 78, 3) := by decide +kernel
theorem dX4_step_13 : decode cX4_step 13 = .ok (.imul, 1) := by decide +kernel
theorem dX4_step_14 : decode cX4_step 14 = .ok (.iadd, 1) := by decide +kernel
theorem dX4_step_15 : decode cX4_step 15 = .ok (.iaload, 1) := by decide +kernel
theorem dX4_step_16 : decode cX4_step 16 = .ok (.istore_n 1, 1) := by decide +kernel
theorem dX4_step_17 : decode cX4_step 17 = .ok (.aload_n 0, 1) := by decide +kernel
theorem dX4_step_18 : decode cX4_step 18 = .ok (.getfield 7, 3) := by decide +kernel
theorem dX4_step_21 : decode cX4_step 21 = .ok (.aload_n 0, 1) := by decide +kernel
theorem dX4_step_22 : decode cX4_step 22 = .ok (.getfield 72, 3) := by decide +kernel
theorem dX4_step_25 : decode cX4_step 25 = .ok (.iconst 3, 1) := by decide +kernel
theorem dX4_step_26 : decode cX4_step 26 = .ok (.aload_n 0, 1) := by decide +kernel
theorem dX4_step_27 : decode cX4_step 27 = .ok (.getfield 78, 3) := by decide +kernel
theorem dX4_step_30 : decode cX4_step 30 = .ok (.imul, 1) := by decide +kernel
theorem dX4_step_31 : decode cX4_step 31 = .ok (.iadd, 1) := by decide +kernel
theorem dX4_step_32 : decode cX4_step 32 = .ok (.iconst 1, 1) := by decide +kernel
theorem dX4_step_33 : decode cX4_step 33 = .ok (.iadd, 1) := by decide +kernel
theorem dX4_step_34 : decode cX4_step 34 = .ok (.iaload, 1) := by decide +kernel
theorem dX4_step_35 : decode cX4_step 35 = .ok (.istore_n 2, 1) := by decide +kernel
theorem dX4_step_36 : decode cX4_step 36 = .ok (.aload_n 0, 1) := by decide +kernel
theorem dX4_step_37 : decode cX4_step 37 = .ok (.getfield 7, 3) := by decide +kernel
theorem dX4_step_40 : decode cX4_step 40 = .ok (.aload_n 0, 1) := by decide +kernel
theorem dX4_step_41 : decode cX4_step 41 = .ok (.getfield 72, 3) := by decide +kernel
theorem dX4_step_44 : decode cX4_step 44 = .ok (.iconst 3, 1) := by decide +kernel
theorem dX4_step_45 : decode cX4_step 45 = .ok (.aload_n 0, 1) := by decide +kernel
theorem dX4_step_46 : decode cX4_step 46 = .ok (.getfield 78, 3) := by decide +kernel
theorem dX4_step_49 : decode cX4_step 49 = .ok (.imul, 1) := by decide +kernel
theorem dX4_step_50 : decode cX4_step 50 = .ok (.iadd, 1) := by decide +kernel
theorem dX4_step_51 : decode cX4_step 51 = .ok (.iconst 2, 1) := by decide +kernel
theorem dX4_step_52 : decode cX4_step 52 = .ok (.iadd, 1) := by decide +kernel
theorem dX4_step_53 : decode cX4_step 53 = .ok (.iaload, 1) := by decide +kernel
theorem dX4_step_54 : decode cX4_step 54 = .ok (.istore_n 3, 1) := by decide +kernel
theorem dX4_step_55 : decode cX4_step 55 = .ok (.aload_n 0, 1) := by decide +kernel
theorem dX4_step_56 : decode cX4_step 56 = .ok (.getfield 78, 3) := by decide +kernel
theorem dX4_step_59 : decode cX4_step 59 = .ok (.iconst 1, 1) := by decide +kernel
theorem dX4_step_60 : decode cX4_step 60 = .ok (.iadd, 1) := by decide +kernel
theorem dX4_step_61 : decode cX4_step 61 = .ok (.istore 4, 2) := by decide +kernel
theorem dX4_step_63 : decode cX4_step 63 = .ok (.iload_n 1, 1) := by decide +kernel
theorem dX4_step_64 : decode cX4_step 64 = .ok (.tableswitch 240 0 10 #[60, 68, 78, 93, 108, 130, 186, 192, 207, 68, 237], 60) := by decide +kernel
theorem dX4_step_124 : decode cX4_step 124 = .ok (.aload_n 0, 1) := by decide +kernel
theorem dX4_step_125 : decode cX4_step 125 = .ok (.iconst 1, 1) := by decide +kernel
theorem dX4_step_126 : decode cX4_step 126 = .ok (.putfield 37, 3) := by decide +kernel
theorem dX4_step_129 : decode cX4_step 129 = .ok (.goto 253, 3) := by decide +kernel
theorem dX4_step_132 : decode cX4_step 132 = .ok (.aload_n 0, 1) := by decide +kernel
theorem dX4_step_133 : decode cX4_step 133 = .ok (.getfield 28, 3) := by decide +kernel
theorem dX4_step_136 : decode cX4_step 136 = .ok (.iload_n 2, 1) := by decide +kernel
theorem dX4_step_137 : decode cX4_step 137 = .ok (.iload_n 3, 1) := by decide +kernel
theorem dX4_step_138 : decode cX4_step 138 = .ok (.iastore, 1) := by decide +kernel
theorem dX4_step_139 : decode cX4_step 139 = .ok (.goto 243, 3) := by decide +kernel
theorem dX4_step_142 : decode cX4_step 142 = .ok (.aload_n 0, 1) := by decide +kernel
theorem dX4_step_143 : decode cX4_step 143 = .ok (.getfield 28, 3) := by decide +kernel
theorem dX4_step_146 : decode cX4_step 146 = .ok (.iload_n 2, 1) := by decide +kernel
theorem dX4_step_147 : decode cX4_step 147 = .ok (.aload_n 0, 1) := by decide +kernel
theorem dX4_step_148 : decode cX4_step 148 = .ok (.getfield 31, 3) := by decide +kernel
theorem dX4_step_151 : decode cX4_step 151 = .ok (.iload_n 3, 1) := by decide +kernel
theorem dX4_step_152 : decode cX4_step 152 = .ok (.iaload, 1) := by decide +kernel
theorem dX4_step_153 : decode cX4_step 153 = .ok (.iastore, 1) := by decide +kernel
theorem dX4_step_154 : decode cX4_step 154 = .ok (.goto 228, 3) := by decide +kernel
theorem dX4_step_157 : decode cX4_step 157 = .ok (.aload_n 0, 1) := by decide +kernel
theorem dX4_step_158 : decode cX4_step 158 = .ok (.getfield 31, 3) := by decide +kernel
theorem dX4_step_161 : decode cX4_step 161 = .ok (.iload_n 3, 1) := by decide +kernel
theorem dX4_step_162 : decode cX4_step 162 = .ok (.aload_n 0, 1) := by decide +kernel
theorem dX4_step_163 : decode cX4_step 163 = .ok (.getfield 28, 3) := by decide +kernel
theorem dX4_step_166 : decode cX4_step 166 = .ok (.iload_n 2, 1) := by decide +kernel
theorem dX4_step_167 : decode cX4_step 167 = .ok (.iaload, 1) := by decide +kernel
theorem dX4_step_168 : decode cX4_step 168 = .ok (.iastore, 1) := by decide +kernel
theorem dX4_step_169 : decode cX4_step 169 = .ok (.goto 213, 3) := by decide +kernel
theorem dX4_step_172 : decode cX4_step 172 = .ok (.aload_n 0, 1) := by decide +kernel
theorem dX4_step_173 : decode cX4_step 173 = .ok (.getfield 28, 3) := by decide +kernel
theorem dX4_step_176 : decode cX4_step 176 = .ok (.iload_n 2, 1) := by decide +kernel
theorem dX4_step_177 : decode cX4_step 177 = .ok (.aload_n 0, 1) := by decide +kernel
theorem dX4_step_178 : decode cX4_step 178 = .ok (.getfield 28, 3) := by decide +kernel
theorem dX4_step_181 : decode cX4_step 181 = .ok (.iload_n 2, 1) := by decide +kernel
theorem dX4_step_182 : decode cX4_step 182 = .ok (.iaload, 1) := by decide +kernel
theorem dX4_step_183 : decode cX4_step 183 = .ok (.aload_n 0, 1) := by decide +kernel
theorem dX4_step_184 : decode cX4_step 184 = .ok (.getfield 28, 3) := by decide +kernel
theorem dX4_step_187 : decode cX4_step 187 = .ok (.iload_n 3, 1) := by decide +kernel
theorem dX4_step_188 : decode cX4_step 188 = .ok (.iaload, 1) := by decide +kernel
theorem dX4_step_189 : decode cX4_step 189 = .ok (.iadd, 1) := by decide +kernel
theorem dX4_step_190 : decode cX4_step 190 = .ok (.iastore, 1) := by decide +kernel
theorem dX4_step_191 : decode cX4_step 191 = .ok (.goto 191, 3) := by decide +kernel
theorem dX4_step_194 : decode cX4_step 194 = .ok (.bipush 7, 2) := by decide +kernel
theorem dX4_step_196 : decode cX4_step 196 = .ok (.istore 5, 2) := by decide +kernel
theorem dX4_step_198 : decode cX4_step 198 = .ok (.iload 5, 2) := by decide +kernel
theorem dX4_step_200 : decode cX4_step 200 = .ok (.ifCond .le 25, 3) := by decide +kernel
theorem dX4_step_203 : decode cX4_step 203 = .ok (.aload_n 0, 1) := by decide +kernel
theorem dX4_step_204 : decode cX4_step 204 = .ok (.getfield 34, 3) := by decide +kernel
theorem dX4_step_207 : decode cX4_step 207 = .ok (.iload 5, 2) := by decide +kernel
theorem dX4_step_209 : decode cX4_step 209 = .ok (.aload_n 0, 1) := by decide +kernel
theorem dX4_step_210 : decode cX4_step 210 = .ok (.getfield 34, 3) := by decide +kernel
theorem dX4_step_213 : decode cX4_step 213 = .ok (.iload 5, 2) := by decide +kernel
theorem dX4_step_215 : decode cX4_step 215 = .ok (.iconst 1, 1) := by decide +kernel
theorem dX4_step_216 : decode cX4_step 216 = .ok (.isub, 1) := by decide +kernel
theorem dX4_step_217 : decode cX4_step 217 = .ok (.iaload, 1) := by decide +kernel
theorem dX4_step_218 : decode cX4_step 218 = .ok (.iastore, 1) := by decide +kernel
theorem dX4_step_219 : decode cX4_step 219 = .ok (.iinc 5 (-1), 3) := by decide +kernel
theorem dX4_step_222 : decode cX4_step 222 = .ok (.goto (-24), 3) := by decide +kernel
theorem dX4_step_225 : decode cX4_step 225 = .ok (.aload_n 0, 1) := by decide +kernel
theorem dX4_step_226 : decode cX4_step 226 = .ok (.getfield 34, 3) := by decide +kernel
theorem dX4_step_229 : decode cX4_step 229 = .ok (.iconst 0, 1) := by decide +kernel
theorem dX4_step_230 : decode cX4_step 230 = .ok (.aload_n 0, 1) := by decide +kernel
theorem dX4_step_231 : decode cX4_step 231 = .ok (.getfield 28, 3) := by decide +kernel
theorem dX4_step_234 : decode cX4_step 234 = .ok (.iload_n 2, 1) := by decide +kernel
theorem dX4_step_235 : decode cX4_step 235 = .ok (.iaload, 1) := by decide +kernel
theorem dX4_step_236 : decode cX4_step 236 = .ok (.iastore, 1) := by decide +kernel
theorem dX4_step_237 : decode cX4_step 237 = .ok (.aload_n 0, 1) := by decide +kernel
theorem dX4_step_238 : decode cX4_step 238 = .ok (.aload_n 0, 1) := by decide +kernel
theorem dX4_step_239 : decode cX4_step 239 = .ok (.getfield 81, 3) := by decide +kernel
theorem dX4_step_242 : decode cX4_step 242 = .ok (.iconst 1, 1) := by decide +kernel
theorem dX4_step_243 : decode cX4_step 243 = .ok (.iadd, 1) := by decide +kernel
theorem dX4_step_244 : decode cX4_step 244 = .ok (.putfield 81, 3) := by decide +kernel
theorem dX4_step_247 : decode cX4_step 247 = .ok (.goto 135, 3) := by decide +kernel
theorem dX4_step_250 : decode cX4_step 250 = .ok (.iload_n 2, 1) := by decide +kernel
theorem dX4_step_251 : decode cX4_step 251 = .ok (.istore 4, 2) := by decide +kernel
theorem dX4_step_253 : decode cX4_step 253 = .ok (.goto 129, 3) := by decide +kernel
theorem dX4_step_256 : decode cX4_step 256 = .ok (.aload_n 0, 1) := by decide +kernel
theorem dX4_step_257 : decode cX4_step 257 = .ok (.getfield 28, 3) := by decide +kernel
theorem dX4_step_260 : decode cX4_step 260 = .ok (.iload_n 2, 1) := by decide +kernel
theorem dX4_step_261 : decode cX4_step 261 = .ok (.iaload, 1) := by decide +kernel
theorem dX4_step_262 : decode cX4_step 262 = .ok (.ifCond .ne 120, 3) := by decide +kernel
theorem dX4_step_265 : decode cX4_step 265 = .ok (.iload_n 3, 1) := by decide +kernel
theorem dX4_step_266 : decode cX4_step 266 = .ok (.istore 4, 2) := by decide +kernel
theorem dX4_step_268 : decode cX4_step 268 = .ok (.goto 114, 3) := by decide +kernel
theorem dX4_step_271 : decode cX4_step 271 = .ok (.aload_n 0, 1) := by decide +kernel
theorem dX4_step_272 : decode cX4_step 272 = .ok (.getfield 28, 3) := by decide +kernel
theorem dX4_step_275 : decode cX4_step 275 = .ok (.iload_n 2, 1) := by decide +kernel
theorem dX4_step_276 : decode cX4_step 276 = .ok (.iaload, 1) := by decide +kernel
theorem dX4_step_277 : decode cX4_step 277 = .ok (.istore 4, 2) := by decide +kernel
theorem dX4_step_279 : decode cX4_step 279 = .ok (.iload 4, 2) := by decide +kernel
theorem dX4_step_281 : decode cX4_step 281 = .ok (.aload_n 0, 1) := by decide +kernel
theorem dX4_step_282 : decode cX4_step 282 = .ok (.getfield 75, 3) := by decide +kernel
theorem dX4_step_285 : decode cX4_step 285 = .ok (.iconst 1, 1) := by decide +kernel
theorem dX4_step_286 : decode cX4_step 286 = .ok (.isub, 1) := by decide +kernel
theorem dX4_step_287 : decode cX4_step 287 = .ok (.invokestatic 41, 3) := by decide +kernel
theorem dX4_step_290 : decode cX4_step 290 = .ok (.ifCond .ne 92, 3) := by decide +kernel
theorem dX4_step_293 : decode cX4_step 293 = .ok (.aload_n 0, 1) := by decide +kernel
theorem dX4_step_294 : decode cX4_step 294 = .ok (.iconst 3, 1) := by decide +kernel
theorem dX4_step_295 : decode cX4_step 295 = .ok (.putfield 37, 3) := by decide +kernel
theorem dX4_step_298 : decode cX4_step 298 = .ok (.goto 84, 3) := by decide +kernel
theorem dX4_step_301 : decode cX4_step 301 = .ok (.goto 81, 3) := by decide +kernel
theorem dX4_step_304 : decode cX4_step 304 = .ok (.aload_n 0, 1) := by decide +kernel
theorem dX4_step_305 : decode cX4_step 305 = .ok (.getfield 28, 3) := by decide +kernel
theorem dX4_step_308 : decode cX4_step 308 = .ok (.iload_n 2, 1) := by decide +kernel
theorem dX4_step_309 : decode cX4_step 309 = .ok (.iaload, 1) := by decide +kernel
theorem dX4_step_310 : decode cX4_step 310 = .ok (.istore 5, 2) := by decide +kernel
theorem dX4_step_312 : decode cX4_step 312 = .ok (.iload 5, 2) := by decide +kernel
theorem dX4_step_314 : decode cX4_step 314 = .ok (.aload_n 0, 1) := by decide +kernel
theorem dX4_step_315 : decode cX4_step 315 = .ok (.getfield 75, 3) := by decide +kernel
theorem dX4_step_318 : decode cX4_step 318 = .ok (.iconst 1, 1) := by decide +kernel
theorem dX4_step_319 : decode cX4_step 319 = .ok (.isub, 1) := by decide +kernel
theorem dX4_step_320 : decode cX4_step 320 = .ok (.invokestatic 41, 3) := by decide +kernel
theorem dX4_step_323 : decode cX4_step 323 = .ok (.ifCond .eq 46, 3) := by decide +kernel
theorem dX4_step_326 : decode cX4_step 326 = .ok (.aload_n 0, 1) := by decide +kernel
theorem dX4_step_327 : decode cX4_step 327 = .ok (.getfield 7, 3) := by decide +kernel
theorem dX4_step_330 : decode cX4_step 330 = .ok (.aload_n 0, 1) := by decide +kernel
theorem dX4_step_331 : decode cX4_step 331 = .ok (.getfield 72, 3) := by decide +kernel
theorem dX4_step_334 : decode cX4_step 334 = .ok (.iconst 3, 1) := by decide +kernel
theorem dX4_step_335 : decode cX4_step 335 = .ok (.iload 5, 2) := by decide +kernel
theorem dX4_step_337 : decode cX4_step 337 = .ok (.imul, 1) := by decide +kernel
theorem dX4_step_338 : decode cX4_step 338 = .ok (.iadd, 1) := by decide +kernel
theorem dX4_step_339 : decode cX4_step 339 = .ok (.iaload, 1) := by decide +kernel
theorem dX4_step_340 : decode cX4_step 340 = .ok (.bipush 10, 2) := by decide +kernel
theorem dX4_step_342 : decode cX4_step 342 = .ok (.if_icmp .ne 27, 3) := by decide +kernel
theorem dX4_step_345 : decode cX4_step 345 = .ok (.aload_n 0, 1) := by decide +kernel
theorem dX4_step_346 : decode cX4_step 346 = .ok (.getfield 7, 3) := by decide +kernel
theorem dX4_step_349 : decode cX4_step 349 = .ok (.aload_n 0, 1) := by decide +kernel
theorem dX4_step_350 : decode cX4_step 350 = .ok (.getfield 72, 3) := by decide +kernel
theorem dX4_step_353 : decode cX4_step 353 = .ok (.iconst 3, 1) := by decide +kernel
theorem dX4_step_354 : decode cX4_step 354 = .ok (.iload 5, 2) := by decide +kernel
theorem dX4_step_356 : decode cX4_step 356 = .ok (.imul, 1) := by decide +kernel
theorem dX4_step_357 : decode cX4_step 357 = .ok (.iadd, 1) := by decide +kernel
theorem dX4_step_358 : decode cX4_step 358 = .ok (.iconst 1, 1) := by decide +kernel
theorem dX4_step_359 : decode cX4_step 359 = .ok (.iadd, 1) := by decide +kernel
theorem dX4_step_360 : decode cX4_step 360 = .ok (.iaload, 1) := by decide +kernel
theorem dX4_step_361 : decode cX4_step 361 = .ok (.iload_n 3, 1) := by decide +kernel
theorem dX4_step_362 : decode cX4_step 362 = .ok (.if_icmp .ne 7, 3) := by decide +kernel
theorem dX4_step_365 : decode cX4_step 365 = .ok (.iconst 1, 1) := by decide +kernel
theorem dX4_step_366 : decode cX4_step 366 = .ok (.goto 4, 3) := by decide +kernel
theorem dX4_step_369 : decode cX4_step 369 = .ok (.iconst 0, 1) := by decide +kernel
theorem dX4_step_370 : decode cX4_step 370 = .ok (.istore 6, 2) := by decide +kernel
theorem dX4_step_372 : decode cX4_step 372 = .ok (.iload 6, 2) := by decide +kernel
theorem dX4_step_374 : decode cX4_step 374 = .ok (.ifCond .ne 8, 3) := by decide +kernel
theorem dX4_step_377 : decode cX4_step 377 = .ok (.aload_n 0, 1) := by decide +kernel
theorem dX4_step_378 : decode cX4_step 378 = .ok (.iconst 2, 1) := by decide +kernel
theorem dX4_step_379 : decode cX4_step 379 = .ok (.putfield 37, 3) := by decide +kernel
theorem dX4_step_382 : decode cX4_step 382 = .ok (.aload_n 0, 1) := by decide +kernel
theorem dX4_step_383 : decode cX4_step 383 = .ok (.getfield 37, 3) := by decide +kernel
theorem dX4_step_386 : decode cX4_step 386 = .ok (.ifCond .ne 9, 3) := by decide +kernel
theorem dX4_step_389 : decode cX4_step 389 = .ok (.aload_n 0, 1) := by decide +kernel
theorem dX4_step_390 : decode cX4_step 390 = .ok (.iload 4, 2) := by decide +kernel
theorem dX4_step_392 : decode cX4_step 392 = .ok (.putfield 78, 3) := by decide +kernel
theorem dX4_step_395 : decode cX4_step 395 = .ok (.return_, 1) := by decide +kernel
set_option maxRecDepth 20000 in
theorem ggX4_run_X4_step : GoodIn wsX4_run wsX4_step := goodIn_r _ [6, 7, 8, 9, 1, 10, 11, 12, 13, 14, 15, 16, 5, 17, 18, 19, 20, 21, 22, 23, 24, 25, 26, 27, 28, 29, 30, 31, 32, 33, 34] (by decide +kernel) (by decide +kernel)
set_option maxRecDepth 20000 in
theorem gX4_run_X4_step : GoodIn wsX4_run (wsV RX4 84 RX4 yX4_step wsX4_step) := goodIn_app (goodIn_of _ (by decide +kernel)) ggX4_run_X4_step
theorem dX4_run_0 : decode cX4_run 0 = .ok (.iconst 0, 1) := by decide +kernel
theorem dX4_run_1 : decode cX4_run 1 = .ok (.istore_n 2, 1) := by decide +kernel
theorem dX4_run_2 : decode cX4_run 2 = .ok (.iconst 0, 1) := by decide +kernel
theorem dX4_run_3 : decode cX4_run 3 = .ok (.istore_n 3, 1) := by decide +kernel
theorem dX4_run_4 : decode cX4_run 4 = .ok (.iload_n 3, 1) := by decide +kernel
theorem dX4_run_5 : decode cX4_run 5 = .ok (.sipush 1000, 3) := by decide +kernel
theorem dX4_run_8 : decode cX4_run 8 = .ok (.if_icmp .ge 36, 3) := by decide +kernel
theorem dX4_run_11 : decode cX4_run 11 = .ok (.iload_n 1, 1) := by decide +kernel
theorem dX4_run_12 : decode cX4_run 12 = .ok (.sipush 1000, 3) := by decide +kernel
theorem dX4_run_15 : decode cX4_run 15 = .ok (.if_icmp .gt 23, 3) := by decide +kernel
theorem dX4_run_18 : decode cX4_run 18 = .ok (.iload_n 3, 1) := by decide +kernel
theorem dX4_run_19 : decode cX4_run 19 = .ok (.iload_n 1, 1) := by decide +kernel
theorem dX4_run_20 : decode cX4_run 20 = .ok (.if_icmp .ge 18, 3) := by decide +kernel
theorem dX4_run_23 : decode cX4_run 23 = .ok (.aload_n 0, 1) := by decide +kernel
theorem dX4_run_24 : decode cX4_run 24 = .ok (.getfield 37, 3) := by decide +kernel
theorem dX4_run_27 : decode cX4_run 27 = .ok (.ifCond .ne 11, 3) := by decide +kernel
theorem dX4_run_30 : decode cX4_run 30 = .ok (.aload_n 0, 1) := by decide +kernel
theorem dX4_run_31 : decode cX4_run 31 = .ok (.invokevirtual 84, 3) := by decide +kernel
theorem dX4_run_34 : decode cX4_run 34 = .ok (.iload_n 2, 1) := by decide +kernel
theorem dX4_run_35 : decode cX4_run 35 = .ok (.iconst 1, 1) := by decide +kernel
theorem dX4_run_36 : decode cX4_run 36 = .ok (.iadd, 1) := by decide +kernel
theorem dX4_run_37 : decode cX4_run 37 = .ok (.istore_n 2, 1) := by decide +kernel
theorem dX4_run_38 : decode cX4_run 38 = .ok (.iinc 3 1, 3) := by decide +kernel
theorem dX4_run_41 : decode cX4_run 41 = .ok (.goto (-37), 3) := by decide +kernel
theorem dX4_run_44 : decode cX4_run 44 = .ok (.iload_n 2, 1) := by decide +kernel
theorem dX4_run_45 : decode cX4_run 45 = .ok (.ireturn, 1) := by decide +kernel
theorem dX4_state_0 : decode cX4_state 0 = .ok (.aload_n 0, 1) := by decide +kernel
theorem dX4_state_1 : decode cX4_state 1 = .ok (.getfield 37, 3) := by decide +kernel
theorem dX4_state_4 : decode cX4_state 4 = .ok (.ireturn, 1) := by decide +kernel
set_option maxRecDepth 20000 in
theorem ggX4_overwrite_X4_within : GoodIn wsX4_overwrite wsX4_within := goodIn_r _ [6] (by decide +kernel) (by decide +kernel)
set_option maxRecDepth 20000 in
theorem gX4_overwrite_X4_within : GoodIn wsX4_overwrite (va_wsS RX4 41 yX4_within wsX4_within) := goodIn_app (goodIn_of _ (by decide +kernel)) ggX4_overwrite_X4_within
theorem dX4_overwrite_0 : decode cX4_overwrite 0 = .ok (.aload_n 0, 1) := by decide +kernel
theorem dX4_overwrite_1 : decode cX4_overwrite 1 = .ok (.getfield 37, 3) := by decide +kernel
theorem dX4_overwrite_4 : decode cX4_overwrite 4 = .ok (.ifCond .lt 12, 3) := by decide +kernel
theorem dX4_overwrite_7 : decode cX4_overwrite 7 = .ok (.iload_n 1, 1) := by decide +kernel
theorem dX4_overwrite_8 : decode cX4_overwrite 8 = .ok (.bipush 15, 2) := by decide +kernel
theorem dX4_overwrite_10 : decode cX4_overwrite 10 = .ok (.invokestatic 41, 3) := by decide +kernel
theorem dX4_overwrite_13 : decode cX4_overwrite 13 = .ok (.ifCond .ne 5, 3) := by decide +kernel
theorem dX4_overwrite_16 : decode cX4_overwrite 16 = .ok (.iconst 0, 1) := by decide +kernel
theorem dX4_overwrite_17 : decode cX4_overwrite 17 = .ok (.ireturn, 1) := by decide +kernel
theorem dX4_overwrite_18 : decode cX4_overwrite 18 = .ok (.aload_n 0, 1) := by decide +kernel
theorem dX4_overwrite_19 : decode cX4_overwrite 19 = .ok (.getfield 31, 3) := by decide +kernel
theorem dX4_overwrite_22 : decode cX4_overwrite 22 = .ok (.iload_n 1, 1) := by decide +kernel
theorem dX4_overwrite_23 : decode cX4_overwrite 23 = .ok (.iload_n 2, 1) := by decide +kernel
theorem dX4_overwrite_24 : decode cX4_overwrite 24 = .ok (.iastore, 1) := by decide +kernel
theorem dX4_overwrite_25 : decode cX4_overwrite 25 = .ok (.iconst 1, 1) := by decide +kernel
theorem dX4_overwrite_26 : decode cX4_overwrite 26 = .ok (.ireturn, 1) := by decide +kernel
set_option maxRecDepth 20000 in
theorem ggX4_memory_X4_within : GoodIn wsX4_memory wsX4_within := goodIn_r _ [6] (by decide +kernel) (by decide +kernel)
set_option maxRecDepth 20000 in
theorem gX4_memory_X4_within : GoodIn wsX4_memory (va_wsS RX4 41 yX4_within wsX4_within) := goodIn_app (goodIn_of _ (by decide +kernel)) ggX4_memory_X4_within
theorem dX4_memory_0 : decode cX4_memory 0 = .ok (.aload_n 0, 1) := by decide +kernel
theorem dX4_memory_1 : decode cX4_memory 1 = .ok (.getfield 37, 3) := by decide +kernel
theorem dX4_memory_4 : decode cX4_memory 4 = .ok (.ifCond .lt 12, 3) := by decide +kernel
theorem dX4_memory_7 : decode cX4_memory 7 = .ok (.iload_n 1, 1) := by decide +kernel
theorem dX4_memory_8 : decode cX4_memory 8 = .ok (.bipush 15, 2) := by decide +kernel
theorem dX4_memory_10 : decode cX4_memory 10 = .ok (.invokestatic 41, 3) := by decide +kernel
theorem dX4_memory_13 : decode cX4_memory 13 = .ok (.ifCond .ne 7, 3) := by decide +kernel
theorem dX4_memory_16 : decode cX4_memory 16 = .ok (.iconst 0, 1) := by decide +kernel
theorem dX4_memory_17 : decode cX4_memory 17 = .ok (.goto 9, 3) := by decide +kernel
theorem dX4_memory_20 : decode cX4_memory 20 = .ok (.aload_n 0, 1) := by decide +kernel
theorem dX4_memory_21 : decode cX4_memory 21 = .ok (.getfield 31, 3) := by decide +kernel
theorem dX4_memory_24 : decode cX4_memory 24 = .ok (.iload_n 1, 1) := by decide +kernel
theorem dX4_memory_25 : decode cX4_memory 25 = .ok (.iaload, 1) := by decide +kernel
theorem dX4_memory_26 : decode cX4_memory 26 = .ok (.ireturn, 1) := by decide +kernel
set_option maxRecDepth 20000 in
theorem ggX4_register_X4_within : GoodIn wsX4_register wsX4_within := goodIn_r _ [6] (by decide +kernel) (by decide +kernel)
set_option maxRecDepth 20000 in
theorem gX4_register_X4_within : GoodIn wsX4_register (va_wsS RX4 41 yX4_within wsX4_within) := goodIn_app (goodIn_of _ (by decide +kernel)) ggX4_register_X4_within
theorem dX4_register_0 : decode cX4_register 0 = .ok (.aload_n 0, 1) := by decide +kernel
theorem dX4_register_1 : decode cX4_register 1 = .ok (.getfield 37, 3) := by decide +kernel
theorem dX4_register_4 : decode cX4_register 4 = .ok (.ifCond .lt 11, 3) := by decide +kernel
theorem dX4_register_7 : decode cX4_register 7 = .ok (.iload_n 1, 1) := by decide +kernel
theorem dX4_register_8 : decode cX4_register 8 = .ok (.iconst 3, 1) := by decide +kernel
theorem dX4_register_9 : decode cX4_register 9 = .ok (.invokestatic 41, 3) := by decide +kernel
theorem dX4_register_12 : decode cX4_register 12 = .ok (.ifCond .ne 7, 3) := by decide +kernel
theorem dX4_register_15 : decode cX4_register 15 = .ok (.iconst 0, 1) := by decide +kernel
theorem dX4_register_16 : decode cX4_register 16 = .ok (.goto 9, 3) := by decide +kernel
theorem dX4_register_19 : decode cX4_register 19 = .ok (.aload_n 0, 1) := by decide +kernel
theorem dX4_register_20 : decode cX4_register 20 = .ok (.getfield 28, 3) := by decide +kernel
theorem dX4_register_23 : decode cX4_register 23 = .ok (.iload_n 1, 1) := by decide +kernel
theorem dX4_register_24 : decode cX4_register 24 = .ok (.iaload, 1) := by decide +kernel
theorem dX4_register_25 : decode cX4_register 25 = .ok (.ireturn, 1) := by decide +kernel
theorem dX4_pc_0 : decode cX4_pc 0 = .ok (.aload_n 0, 1) := by decide +kernel
theorem dX4_pc_1 : decode cX4_pc 1 = .ok (.getfield 37, 3) := by decide +kernel
theorem dX4_pc_4 : decode cX4_pc 4 = .ok (.ifCond .ge 7, 3) := by decide +kernel
theorem dX4_pc_7 : decode cX4_pc 7 = .ok (.iconst (-1), 1) := by decide +kernel
theorem dX4_pc_8 : decode cX4_pc 8 = .ok (.goto 7, 3) := by decide +kernel
theorem dX4_pc_11 : decode cX4_pc 11 = .ok (.aload_n 0, 1) := by decide +kernel
theorem dX4_pc_12 : decode cX4_pc 12 = .ok (.getfield 78, 3) := by decide +kernel
theorem dX4_pc_15 : decode cX4_pc 15 = .ok (.ireturn, 1) := by decide +kernel
theorem dX4_shows_0 : decode cX4_shows 0 = .ok (.aload_n 0, 1) := by decide +kernel
theorem dX4_shows_1 : decode cX4_shows 1 = .ok (.getfield 37, 3) := by decide +kernel
theorem dX4_shows_4 : decode cX4_shows 4 = .ok (.ifCond .ge 7, 3) := by decide +kernel
theorem dX4_shows_7 : decode cX4_shows 7 = .ok (.iconst 0, 1) := by decide +kernel
theorem dX4_shows_8 : decode cX4_shows 8 = .ok (.goto 7, 3) := by decide +kernel
theorem dX4_shows_11 : decode cX4_shows 11 = .ok (.aload_n 0, 1) := by decide +kernel
theorem dX4_shows_12 : decode cX4_shows 12 = .ok (.getfield 81, 3) := by decide +kernel
theorem dX4_shows_15 : decode cX4_shows 15 = .ok (.ireturn, 1) := by decide +kernel
set_option maxRecDepth 20000 in
theorem ggX4_shown_X4_within : GoodIn wsX4_shown wsX4_within := goodIn_r _ [7] (by decide +kernel) (by decide +kernel)
set_option maxRecDepth 20000 in
theorem gX4_shown_X4_within : GoodIn wsX4_shown (va_wsS RX4 41 yX4_within wsX4_within) := goodIn_app (goodIn_of _ (by decide +kernel)) ggX4_shown_X4_within
theorem dX4_shown_0 : decode cX4_shown 0 = .ok (.aload_n 0, 1) := by decide +kernel
theorem dX4_shown_1 : decode cX4_shown 1 = .ok (.getfield 37, 3) := by decide +kernel
theorem dX4_shown_4 : decode cX4_shown 4 = .ok (.ifCond .lt 20, 3) := by decide +kernel
theorem dX4_shown_7 : decode cX4_shown 7 = .ok (.iload_n 1, 1) := by decide +kernel
theorem dX4_shown_8 : decode cX4_shown 8 = .ok (.bipush 7, 2) := by decide +kernel
theorem dX4_shown_10 : decode cX4_shown 10 = .ok (.invokestatic 41, 3) := by decide +kernel
theorem dX4_shown_13 : decode cX4_shown 13 = .ok (.ifCond .eq 11, 3) := by decide +kernel
theorem dX4_shown_16 : decode cX4_shown 16 = .ok (.iload_n 1, 1) := by decide +kernel
theorem dX4_shown_17 : decode cX4_shown 17 = .ok (.aload_n 0, 1) := by decide +kernel
theorem dX4_shown_18 : decode cX4_shown 18 = .ok (.getfield 81, 3) := by decide +kernel
theorem dX4_shown_21 : decode cX4_shown 21 = .ok (.if_icmp .lt 7, 3) := by decide +kernel
theorem dX4_shown_24 : decode cX4_shown 24 = .ok (.iconst 0, 1) := by decide +kernel
theorem dX4_shown_25 : decode cX4_shown 25 = .ok (.goto 9, 3) := by decide +kernel
theorem dX4_shown_28 : decode cX4_shown 28 = .ok (.aload_n 0, 1) := by decide +kernel
theorem dX4_shown_29 : decode cX4_shown 29 = .ok (.getfield 34, 3) := by decide +kernel
theorem dX4_shown_32 : decode cX4_shown 32 = .ok (.iload_n 1, 1) := by decide +kernel
theorem dX4_shown_33 : decode cX4_shown 33 = .ok (.iaload, 1) := by decide +kernel
theorem dX4_shown_34 : decode cX4_shown 34 = .ok (.ireturn, 1) := by decide +kernel
theorem dJ9_max_7cf53_0 : decode cJ9_max_7cf53 0 = .ok (.iload_n 0, 1) := by decide +kernel
theorem dJ9_max_7cf53_1 : decode cJ9_max_7cf53 1 = .ok (.iload_n 1, 1) := by decide +kernel
theorem dJ9_max_7cf53_2 : decode cJ9_max_7cf53 2 = .ok (.if_icmp .lt 7, 3) := by decide +kernel
theorem dJ9_max_7cf53_5 : decode cJ9_max_7cf53 5 = .ok (.iload_n 0, 1) := by decide +kernel
theorem dJ9_max_7cf53_6 : decode cJ9_max_7cf53 6 = .ok (.goto 4, 3) := by decide +kernel
theorem dJ9_max_7cf53_9 : decode cJ9_max_7cf53 9 = .ok (.iload_n 1, 1) := by decide +kernel
theorem dJ9_max_7cf53_10 : decode cJ9_max_7cf53 10 = .ok (.ireturn, 1) := by decide +kernel
theorem dJ9_min_7cf53_0 : decode cJ9_min_7cf53 0 = .ok (.iload_n 0, 1) := by decide +kernel
theorem dJ9_min_7cf53_1 : decode cJ9_min_7cf53 1 = .ok (.iload_n 1, 1) := by decide +kernel
theorem dJ9_min_7cf53_2 : decode cJ9_min_7cf53 2 = .ok (.if_icmp .gt 7, 3) := by decide +kernel
theorem dJ9_min_7cf53_5 : decode cJ9_min_7cf53 5 = .ok (.iload_n 0, 1) := by decide +kernel
theorem dJ9_min_7cf53_6 : decode cJ9_min_7cf53 6 = .ok (.goto 4, 3) := by decide +kernel
theorem dJ9_min_7cf53_9 : decode cJ9_min_7cf53 9 = .ok (.iload_n 1, 1) := by decide +kernel
theorem dJ9_min_7cf53_10 : decode cJ9_min_7cf53 10 = .ok (.ireturn, 1) := by decide +kernel
theorem dJ7_fill_53178_0 : decode cJ7_fill_53178 0 = .ok (.iconst 0, 1) := by decide +kernel
theorem dJ7_fill_53178_1 : decode cJ7_fill_53178 1 = .ok (.istore_n 2, 1) := by decide +kernel
theorem dJ7_fill_53178_2 : decode cJ7_fill_53178 2 = .ok (.aload_n 0, 1) := by decide +kernel
theorem dJ7_fill_53178_3 : decode cJ7_fill_53178 3 = .ok (.arraylength, 1) := by decide +kernel
theorem dJ7_fill_53178_4 : decode cJ7_fill_53178 4 = .ok (.istore_n 3, 1) := by decide +kernel
theorem dJ7_fill_53178_5 : decode cJ7_fill_53178 5 = .ok (.iload_n 2, 1) := by decide +kernel
theorem dJ7_fill_53178_6 : decode cJ7_fill_53178 6 = .ok (.iload_n 3, 1) := by decide +kernel
theorem dJ7_fill_53178_7 : decode cJ7_fill_53178 7 = .ok (.if_icmp .ge 13, 3) := by decide +kernel
theorem dJ7_fill_53178_10 : decode cJ7_fill_53178 10 = .ok (.aload_n 0, 1) := by decide +kernel
theorem dJ7_fill_53178_11 : decode cJ7_fill_53178 11 = .ok (.iload_n 2, 1) := by decide +kernel
theorem dJ7_fill_53178_12 : decode cJ7_fill_53178 12 = .ok (.iload_n 1, 1) := by decide +kernel
theorem dJ7_fill_53178_13 : decode cJ7_fill_53178 13 = .ok (.iastore, 1) := by decide +kernel
theorem dJ7_fill_53178_14 : decode cJ7_fill_53178 14 = .ok (.iinc 2 1, 3) := by decide +kernel
theorem dJ7_fill_53178_17 : decode cJ7_fill_53178 17 = .ok (.goto (-12), 3) := by decide +kernel
theorem dJ7_fill_53178_20 : decode cJ7_fill_53178 20 = .ok (.return_, 1) := by decide +kernel
theorem dL_law_0 : decode cL_law 0 = .ok (.new 7, 3) := by decide +kernel
theorem dL_law_3 : decode cL_law 3 = .ok (.dup, 1) := by decide +kernel
theorem dL_law_4 : decode cL_law 4 = .ok (.invokespecial 9, 3) := by decide +kernel
theorem dL_law_7 : decode cL_law 7 = .ok (.astore_n 1, 1) := by decide +kernel
theorem dL_law_8 : decode cL_law 8 = .ok (.new 10, 3) := by decide +kernel
theorem dL_law_11 : decode cL_law 11 = .ok (.dup, 1) := by decide +kernel
theorem dL_law_12 : decode cL_law 12 = .ok (.invokespecial 12, 3) := by decide +kernel
theorem dL_law_15 : decode cL_law 15 = .ok (.astore_n 2, 1) := by decide +kernel
theorem dL_law_16 : decode cL_law 16 = .ok (.iconst 0, 1) := by decide +kernel
theorem dL_law_17 : decode cL_law 17 = .ok (.istore_n 3, 1) := by decide +kernel
theorem dL_law_18 : decode cL_law 18 = .ok (.iload_n 3, 1) := by decide +kernel
theorem dL_law_19 : decode cL_law 19 = .ok (.aload_n 0, 1) := by decide +kernel
theorem dL_law_20 : decode cL_law 20 = .ok (.arraylength, 1) := by decide +kernel
theorem dL_law_21 : decode cL_law 21 = .ok (.iconst 4, 1) := by decide +kernel
theorem dL_law_22 : decode cL_law 22 = .ok (.isub, 1) := by decide +kernel
theorem dL_law_23 : decode cL_law 23 = .ok (.if_icmp .gt 499, 3) := by decide +kernel
theorem dL_law_26 : decode cL_law 26 = .ok (.aload_n 0, 1) := by decide +kernel
theorem dL_law_27 : decode cL_law 27 = .ok (.iload_n 3, 1) := by decide +kernel
theorem dL_law_28 : decode cL_law 28 = .ok (.iaload, 1) := by decide +kernel
theorem dL_law_29 : decode cL_law 29 = .ok (.bipush 15, 2) := by decide +kernel
theorem dL_law_31 : decode cL_law 31 = .ok (.iand, 1) := by decide +kernel
theorem dL_law_32 : decode cL_law 32 = .ok (.tableswitch 484 0 15 #[80, 123, 156, 169, 202, 235, 258, 281, 320, 343, 356, 389, 412, 435, 448, 461], 80) := by decide +kernel
theorem dL_law_112 : decode cL_law 112 = .ok (.aload_n 1, 1) := by decide +kernel
theorem dL_law_113 : decode cL_law 113 = .ok (.aload_n 0, 1) := by decide +kernel
theorem dL_law_114 : decode cL_law 114 = .ok (.iload_n 3, 1) := by decide +kernel
theorem dL_law_115 : decode cL_law 115 = .ok (.iconst 1, 1) := by decide +kernel
theorem dL_law_116 : decode cL_law 116 = .ok (.iadd, 1) := by decide +kernel
theorem dL_law_117 : decode cL_law 117 = .ok (.iaload, 1) := by decide +kernel
theorem dL_law_118 : decode cL_law 118 = .ok (.aload_n 0, 1) := by decide +kernel
theorem dL_law_119 : decode cL_law 119 = .ok (.iload_n 3, 1) := by decide +kernel
theorem dL_law_120 : decode cL_law 120 = .ok (.iconst 2, 1) := by decide +kernel
theorem dL_law_121 : decode cL_law 121 = .ok (.iadd, 1) := by decide +kernel
theorem dL_law_122 : decode cL_law 122 = .ok (.iaload, 1) := by decide +kernel
theorem dL_law_123 : decode cL_law 123 = .ok (.aload_n 0, 1) := by decide +kernel
theorem dL_law_124 : decode cL_law 124 = .ok (.iload_n 3, 1) := by decide +kernel
theorem dL_law_125 : decode cL_law 125 = .ok (.iconst 3, 1) := by decide +kernel
theorem dL_law_126 : decode cL_law 126 = .ok (.iadd, 1) := by decide +kernel
theorem dL_law_127 : decode cL_law 127 = .ok (.iaload, 1) := by decide +kernel
theorem dL_law_128 : decode cL_law 128 = .ok (.invokevirtual 13, 3) := by decide +kernel
theorem dL_law_131 : decode cL_law 131 = .ok (.aload_n 2, 1) := by decide +kernel
theorem dL_law_132 : decode cL_law 132 = .ok (.aload_n 0, 1) := by decide +kernel
theorem dL_law_133 : decode cL_law 133 = .ok (.iload_n 3, 1) := by decide +kernel
theorem dL_law_134 : decode cL_law 134 = .ok (.iconst 1, 1) := by decide +kernel
theorem dL_law_135 : decode cL_law 135 = .ok (.iadd, 1) := by decide +kernel
theorem dL_law_136 : decode cL_law 136 = .ok (.iaload, 1) := by decide +kernel
theorem dL_law_137 : decode cL_law 137 = .ok (.aload_n 0, 1) := by decide +kernel
theorem dL_law_138 : decode cL_law 138 = .ok (.iload_n 3, 1) := by decide +kernel
theorem dL_law_139 : decode cL_law 139 = .ok (.iconst 2, 1) := by decide +kernel
theorem dL_law_140 : decode cL_law 140 = .ok (.iadd, 1) := by decide +kernel
theorem dL_law_141 : decode cL_law 141 = .ok (.iaload, 1) := by decide +kernel
theorem dL_law_142 : decode cL_law 142 = .ok (.aload_n 0, 1) := by decide +kernel
theorem dL_law_143 : decode cL_law 143 = .ok (.iload_n 3, 1) := by decide +kernel
theorem dL_law_144 : decode cL_law 144 = .ok (.iconst 3, 1) := by decide +kernel
theorem dL_law_145 : decode cL_law 145 = .ok (.iadd, 1) := by decide +kernel
theorem dL_law_146 : decode cL_law 146 = .ok (.iaload, 1) := by decide +kernel
theorem dL_law_147 : decode cL_law 147 = .ok (.invokevirtual 17, 3) := by decide +kernel
theorem dL_law_150 : decode cL_law 150 = .ok (.if_icmp .eq 366, 3) := by decide +kernel
theorem dL_law_153 : decode cL_law 153 = .ok (.iconst 0, 1) := by decide +kernel
theorem dL_law_154 : decode cL_law 154 = .ok (.ireturn, 1) := by decide +kernel
theorem dL_law_155 : decode cL_law 155 = .ok (.aload_n 1, 1) := by decide +kernel
theorem dL_law_156 : decode cL_law 156 = .ok (.aload_n 0, 1) := by decide +kernel
theorem dL_law_157 : decode cL_law 157 = .ok (.iload_n 3, 1) := by decide +kernel
theorem dL_law_158 : decode cL_law 158 = .ok (.iconst 1, 1) := by decide +kernel
theorem dL_law_159 : decode cL_law 159 = .ok (.iadd, 1) := by decide +kernel
theorem dL_law_160 : decode cL_law 160 = .ok (.iaload, 1) := by decide +kernel
theorem dL_law_161 : decode cL_law 161 = .ok (.aload_n 0, 1) := by decide +kernel
theorem dL_law_162 : decode cL_law 162 = .ok (.iload_n 3, 1) := by decide +kernel
theorem dL_law_163 : decode cL_law 163 = .ok (.iconst 2, 1) := by decide +kernel
theorem dL_law_164 : decode cL_law 164 = .ok (.iadd, 1) := by decide +kernel
theorem dL_law_165 : decode cL_law 165 = .ok (.iaload, 1) := by decide +kernel
theorem dL_law_166 : decode cL_law 166 = .ok (.invokevirtual 18, 3) := by decide +kernel
theorem dL_law_169 : decode cL_law 169 = .ok (.aload_n 2, 1) := by decide +kernel
theorem dL_law_170 : decode cL_law 170 = .ok (.aload_n 0, 1) := by decide +kernel
theorem dL_law_171 : decode cL_law 171 = .ok (.iload_n 3, 1) := by decide +kernel
theorem dL_law_172 : decode cL_law 172 = .ok (.iconst 1, 1) := by decide +kernel
theorem dL_law_173 : decode cL_law 173 = .ok (.iadd, 1) := by decide +kernel
theorem dL_law_174 : decode cL_law 174 = .ok (.iaload, 1) := by decide +kernel
theorem dL_law_175 : decode cL_law 175 = .ok (.aload_n 0, 1) := by decide +kernel
theorem dL_law_176 : decode cL_law 176 = .ok (.iload_n 3, 1) := by decide +kernel
theorem dL_law_177 : decode cL_law 177 = .ok (.iconst 2, 1) := by decide +kernel
theorem dL_law_178 : decode cL_law 178 = .ok (.iadd, 1) := by decide +kernel
theorem dL_law_179 : decode cL_law 179 = .ok (.iaload, 1) := by decide +kernel
theorem dL_law_180 : decode cL_law 180 = .ok (.invokevirtual 22, 3) := by decide +kernel
theorem dL_law_183 : decode cL_law 183 = .ok (.if_icmp .eq 333, 3) := by decide +kernel
theorem dL_law_186 : decode cL_law 186 = .ok (.iconst 0, 1) := by decide +kernel
theorem dL_law_187 : decode cL_law 187 = .ok (.ireturn, 1) := by decide +kernel
theorem dL_law_188 : decode cL_law 188 = .ok (.aload_n 1, 1) := by decide +kernel
theorem dL_law_189 : decode cL_law 189 = .ok (.invokevirtual 23, 3) := by decide +kernel
theorem dL_law_192 : decode cL_law 192 = .ok (.aload_n 2, 1) := by decide +kernel
theorem dL_law_193 : decode cL_law 193 = .ok (.invokevirtual 27, 3) := by decide +kernel
theorem dL_law_196 : decode cL_law 196 = .ok (.if_icmp .eq 320, 3) := by decide +kernel
theorem dL_law_199 : decode cL_law 199 = .ok (.iconst 0, 1) := by decide +kernel
theorem dL_law_200 : decode cL_law 200 = .ok (.ireturn, 1) := by decide +kernel
theorem dL_law_201 : decode cL_law 201 = .ok (.aload_n 1, 1) := by decide +kernel
theorem dL_law_202 : decode cL_law 202 = .ok (.aload_n 0, 1) := by decide +kernel
theorem dL_law_203 : decode cL_law 203 = .ok (.iload_n 3, 1) := by decide +kernel
theorem dL_law_204 : decode cL_law 204 = .ok (.iconst 1, 1) := by decide +kernel
theorem dL_law_205 : decode cL_law 205 = .ok (.iadd, 1) := by decide +kernel
theorem dL_law_206 : decode cL_law 206 = .ok (.iaload, 1) := by decide +kernel
theorem dL_law_207 : decode cL_law 207 = .ok (.aload_n 0, 1) := by decide +kernel
theorem dL_law_208 : decode cL_law 208 = .ok (.iload_n 3, 1) := by decide +kernel
theorem dL_law_209 : decode cL_law 209 = .ok (.iconst 2, 1) := by decide +kernel
theorem dL_law_210 : decode cL_law 210 = .ok (.iadd, 1) := by decide +kernel
theorem dL_law_211 : decode cL_law 211 = .ok (.iaload, 1) := by decide +kernel
theorem dL_law_212 : decode cL_law 212 = .ok (.invokevirtual 28, 3) := by decide +kernel
theorem dL_law_215 : decode cL_law 215 = .ok (.aload_n 2, 1) := by decide +kernel
theorem dL_law_216 : decode cL_law 216 = .ok (.aload_n 0, 1) := by decide +kernel
theorem dL_law_217 : decode cL_law 217 = .ok (.iload_n 3, 1) := by decide +kernel
theorem dL_law_218 : decode cL_law 218 = .ok (.iconst 1, 1) := by decide +kernel
theorem dL_law_219 : decode cL_law 219 = .ok (.iadd, 1) := by decide +kernel
theorem dL_law_220 : decode cL_law 220 = .ok (.iaload, 1) := by decide +kernel
theorem dL_law_221 : decode cL_law 221 = .ok (.aload_n 0, 1) := by decide +kernel
theorem dL_law_222 : decode cL_law 222 = .ok (.iload_n 3, 1) := by decide +kernel
theorem dL_law_223 : decode cL_law 223 = .ok (.iconst 2, 1) := by decide +kernel
theorem dL_law_224 : decode cL_law 224 = .ok (.iadd, 1) := by decide +kernel
theorem dL_law_225 : decode cL_law 225 = .ok (.iaload, 1) := by decide +kernel
theorem dL_law_226 : decode cL_law 226 = .ok (.invokevirtual 32, 3) := by decide +kernel
theorem dL_law_229 : decode cL_law 229 = .ok (.if_icmp .eq 287, 3) := by decide +kernel
theorem dL_law_232 : decode cL_law 232 = .ok (.iconst 0, 1) := by decide +kernel
theorem dL_law_233 : decode cL_law 233 = .ok (.ireturn, 1) := by decide +kernel
theorem dL_law_234 : decode cL_law 234 = .ok (.aload_n 1, 1) := by decide +kernel
theorem dL_law_235 : decode cL_law 235 = .ok (.aload_n 0, 1) := by decide +kernel
theorem dL_law_236 : decode cL_law 236 = .ok (.iload_n 3, 1) := by decide +kernel
theorem dL_law_237 : decode cL_law 237 = .ok (.iconst 1, 1) := by decide +kernel
theorem dL_law_238 : decode cL_law 238 = .ok (.iadd, 1) := by decide +kernel
theorem dL_law_239 : decode cL_law 239 = .ok (.iaload, 1) := by decide +kernel
theorem dL_law_240 : decode cL_law 240 = .ok (.aload_n 0, 1) := by decide +kernel
theorem dL_law_241 : decode cL_law 241 = .ok (.iload_n 3, 1) := by decide +kernel
theorem dL_law_242 : decode cL_law 242 = .ok (.iconst 2, 1) := by decide +kernel
theorem dL_law_243 : decode cL_law 243 = .ok (.iadd, 1) := by decide +kernel
theorem dL_law_244 : decode cL_law 244 = .ok (.iaload, 1) := by decide +kernel
theorem dL_law_245 : decode cL_law 245 = .ok (.invokevirtual 33, 3) := by decide +kernel
theorem dL_law_248 : decode cL_law 248 = .ok (.aload_n 2, 1) := by decide +kernel
theorem dL_law_249 : decode cL_law 249 = .ok (.aload_n 0, 1) := by decide +kernel
theorem dL_law_250 : decode cL_law 250 = .ok (.iload_n 3, 1) := by decide +kernel
theorem dL_law_251 : decode cL_law 251 = .ok (.iconst 1, 1) := by decide +kernel
theorem dL_law_252 : decode cL_law 252 = .ok (.iadd, 1) := by decide +kernel
theorem dL_law_253 : decode cL_law 253 = .ok (.iaload, 1) := by decide +kernel
theorem dL_law_254 : decode cL_law 254 = .ok (.aload_n 0, 1) := by decide +kernel
theorem dL_law_255 : decode cL_law 255 = .ok (.iload_n 3, 1) := by decide +kernel
theorem dL_law_256 : decode cL_law 256 = .ok (.iconst 2, 1) := by decide +kernel
theorem dL_law_257 : decode cL_law 257 = .ok (.iadd, 1) := by decide +kernel
theorem dL_law_258 : decode cL_law 258 = .ok (.iaload, 1) := by decide +kernel
theorem dL_law_259 : decode cL_law 259 = .ok (.invokevirtual 36, 3) := by decide +kernel
theorem dL_law_262 : decode cL_law 262 = .ok (.if_icmp .eq 254, 3) := by decide +kernel
theorem dL_law_265 : decode cL_law 265 = .ok (.iconst 0, 1) := by decide +kernel
theorem dL_law_266 : decode cL_law 266 = .ok (.ireturn, 1) := by decide +kernel
theorem dL_law_267 : decode cL_law 267 = .ok (.aload_n 1, 1) := by decide +kernel
theorem dL_law_268 : decode cL_law 268 = .ok (.aload_n 0, 1) := by decide +kernel
theorem dL_law_269 : decode cL_law 269 = .ok (.iload_n 3, 1) := by decide +kernel
theorem dL_law_270 : decode cL_law 270 = .ok (.iconst 1, 1) := by decide +kernel
theorem dL_law_271 : decode cL_law 271 = .ok (.iadd, 1) := by decide +kernel
theorem dL_law_272 : decode cL_law 272 = .ok (.iaload, 1) := by decide +kernel
theorem dL_law_273 : decode cL_law 273 = .ok (.invokevirtual 37, 3) := by decide +kernel
theorem dL_law_276 : decode cL_law 276 = .ok (.aload_n 2, 1) := by decide +kernel
theorem dL_law_277 : decode cL_law 277 = .ok (.aload_n 0, 1) := by decide +kernel
theorem dL_law_278 : decode cL_law 278 = .ok (.iload_n 3, 1) := by decide +kernel
theorem dL_law_279 : decode cL_law 279 = .ok (.iconst 1, 1) := by decide +kernel
theorem dL_law_280 : decode cL_law 280 = .ok (.iadd, 1) := by decide +kernel
theorem dL_law_281 : decode cL_law 281 = .ok (.iaload, 1) := by decide +kernel
theorem dL_law_282 : decode cL_law 282 = .ok (.invokevirtual 41, 3) := by decide +kernel
theorem dL_law_285 : decode cL_law 285 = .ok (.if_icmp .eq 231, 3) := by decide +kernel
theorem dL_law_288 : decode cL_law 288 = .ok (.iconst 0, 1) := by decide +kernel
theorem dL_law_289 : decode cL_law 289 = .ok (.ireturn, 1) := by decide +kernel
theorem dL_law_290 : decode cL_law 290 = .ok (.aload_n 1, 1) := by decide +kernel
theorem dL_law_291 : decode cL_law 291 = .ok (.aload_n 0, 1) := by decide +kernel
theorem dL_law_292 : decode cL_law 292 = .ok (.iload_n 3, 1) := by decide +kernel
theorem dL_law_293 : decode cL_law 293 = .ok (.iconst 1, 1) := by decide +kernel
theorem dL_law_294 : decode cL_law 294 = .ok (.iadd, 1) := by decide +kernel
theorem dL_law_295 : decode cL_law 295 = .ok (.iaload, 1) := by decide +kernel
theorem dL_law_296 : decode cL_law 296 = .ok (.invokevirtual 42, 3) := by decide +kernel
theorem dL_law_299 : decode cL_law 299 = .ok (.aload_n 2, 1) := by decide +kernel
theorem dL_law_300 : decode cL_law 300 = .ok (.aload_n 0, 1) := by decide +kernel
theorem dL_law_301 : decode cL_law 301 = .ok (.iload_n 3, 1) := by decide +kernel
theorem dL_law_302 : decode cL_law 302 = .ok (.iconst 1, 1) := by decide +kernel
theorem dL_law_303 : decode cL_law 303 = .ok (.iadd, 1) := by decide +kernel
theorem dL_law_304 : decode cL_law 304 = .ok (.iaload, 1) := by decide +kernel
theorem dL_law_305 : decode cL_law 305 = .ok (.invokevirtual 45, 3) := by decide +kernel
theorem dL_law_308 : decode cL_law 308 = .ok (.if_icmp .eq 208, 3) := by decide +kernel
theorem dL_law_311 : decode cL_law 311 = .ok (.iconst 0, 1) := by decide +kernel
theorem dL_law_312 : decode cL_law 312 = .ok (.ireturn, 1) := by decide +kernel
theorem dL_law_313 : decode cL_law 313 = .ok (.aload_n 1, 1) := by decide +kernel
theorem dL_law_314 : decode cL_law 314 = .ok (.aload_n 0, 1) := by decide +kernel
theorem dL_law_315 : decode cL_law 315 = .ok (.iload_n 3, 1) := by decide +kernel
theorem dL_law_316 : decode cL_law 316 = .ok (.iconst 1, 1) := by decide +kernel
theorem dL_law_317 : decode cL_law 317 = .ok (.iadd, 1) := by decide +kernel
theorem dL_law_318 : decode cL_law 318 = .ok (.iaload, 1) := by decide +kernel
theorem dL_law_319 : decode cL_law 319 = .ok (.ifCond .eq 7, 3) := by decide +kernel
theorem dL_law_322 : decode cL_law 322 = .ok (.iconst 1, 1) := by decide +kernel
theorem dL_law_323 : decode cL_law 323 = .ok (.goto 4, 3) := by decide +kernel
theorem dL_law_326 : decode cL_law 326 = .ok (.iconst 0, 1) := by decide +kernel
theorem dL_law_327 : decode cL_law 327 = .ok (.invokevirtual 46, 3) := by decide +kernel
theorem dL_law_330 : decode cL_law 330 = .ok (.aload_n 2, 1) := by decide +kernel
theorem dL_law_331 : decode cL_law 331 = .ok (.aload_n 0, 1) := by decide +kernel
theorem dL_law_332 : decode cL_law 332 = .ok (.iload_n 3, 1) := by decide +kernel
theorem dL_law_333 : decode cL_law 333 = .ok (.iconst 1, 1) := by decide +kernel
theorem dL_law_334 : decode cL_law 334 = .ok (.iadd, 1) := by decide +kernel
theorem dL_law_335 : decode cL_law 335 = .ok (.iaload, 1) := by decide +kernel
theorem dL_law_336 : decode cL_law 336 = .ok (.ifCond .eq 7, 3) := by decide +kernel
theorem dL_law_339 : decode cL_law 339 = .ok (.iconst 1, 1) := by decide +kernel
theorem dL_law_340 : decode cL_law 340 = .ok (.goto 4, 3) := by decide +kernel
theorem dL_law_343 : decode cL_law 343 = .ok (.iconst 0, 1) := by decide +kernel
theorem dL_law_344 : decode cL_law 344 = .ok (.invokevirtual 50, 3) := by decide +kernel
theorem dL_law_347 : decode cL_law 347 = .ok (.if_icmp .eq 169, 3) := by decide +kernel
theorem dL_law_350 : decode cL_law 350 = .ok (.iconst 0, 1) := by decide +kernel
theorem dL_law_351 : decode cL_law 351 = .ok (.ireturn, 1) := by decide +kernel
theorem dL_law_352 : decode cL_law 352 = .ok (.aload_n 1, 1) := by decide +kernel
theorem dL_law_353 : decode cL_law 353 = .ok (.aload_n 0, 1) := by decide +kernel
theorem dL_law_354 : decode cL_law 354 = .ok (.iload_n 3, 1) := by decide +kernel
theorem dL_law_355 : decode cL_law 355 = .ok (.iconst 1, 1) := by decide +kernel
theorem dL_law_356 : decode cL_law 356 = .ok (.iadd, 1) := by decide +kernel
theorem dL_law_357 : decode cL_law 357 = .ok (.iaload, 1) := by decide +kernel
theorem dL_law_358 : decode cL_law 358 = .ok (.invokevirtual 51, 3) := by decide +kernel
theorem dL_law_361 : decode cL_law 361 = .ok (.aload_n 2, 1) := by decide +kernel
theorem dL_law_362 : decode cL_law 362 = .ok (.aload_n 0, 1) := by decide +kernel
theorem dL_law_363 : decode cL_law 363 = .ok (.iload_n 3, 1) := by decide +kernel
theorem dL_law_364 : decode cL_law 364 = .ok (.iconst 1, 1) := by decide +kernel
theorem dL_law_365 : decode cL_law 365 = .ok (.iadd, 1) := by decide +kernel
theorem dL_law_366 : decode cL_law 366 = .ok (.iaload, 1) := by decide +kernel
theorem dL_law_367 : decode cL_law 367 = .ok (.invokevirtual 54, 3) := by decide +kernel
theorem dL_law_370 : decode cL_law 370 = .ok (.if_icmp .eq 146, 3) := by decide +kernel
theorem dL_law_373 : decode cL_law 373 = .ok (.iconst 0, 1) := by decide +kernel
theorem dL_law_374 : decode cL_law 374 = .ok (.ireturn, 1) := by decide +kernel
theorem dL_law_375 : decode cL_law 375 = .ok (.aload_n 1, 1) := by decide +kernel
theorem dL_law_376 : decode cL_law 376 = .ok (.invokevirtual 55, 3) := by decide +kernel
theorem dL_law_379 : decode cL_law 379 = .ok (.aload_n 2, 1) := by decide +kernel
theorem dL_law_380 : decode cL_law 380 = .ok (.invokevirtual 58, 3) := by decide +kernel
theorem dL_law_383 : decode cL_law 383 = .ok (.if_icmp .eq 133, 3) := by decide +kernel
theorem dL_law_386 : decode cL_law 386 = .ok (.iconst 0, 1) := by decide +kernel
theorem dL_law_387 : decode cL_law 387 = .ok (.ireturn, 1) := by decide +kernel
theorem dL_law_388 : decode cL_law 388 = .ok (.aload_n 1, 1) := by decide +kernel
theorem dL_law_389 : decode cL_law 389 = .ok (.aload_n 0, 1) := by decide +kernel
theorem dL_law_390 : decode cL_law 390 = .ok (.iload_n 3, 1) := by decide +kernel
theorem dL_law_391 : decode cL_law 391 = .ok (.iconst 1, 1) := by decide +kernel
theorem dL_law_392 : decode cL_law 392 = .ok (.iadd, 1) := by decide +kernel
theorem dL_law_393 : decode cL_law 393 = .ok (.iaload, 1) := by decide +kernel
theorem dL_law_394 : decode cL_law 394 = .ok (.aload_n 0, 1) := by decide +kernel
theorem dL_law_395 : decode cL_law 395 = .ok (.iload_n 3, 1) := by decide +kernel
theorem dL_law_396 : decode cL_law 396 = .ok (.iconst 2, 1) := by decide +kernel
theorem dL_law_397 : decode cL_law 397 = .ok (.iadd, 1) := by decide +kernel
theorem dL_law_398 : decode cL_law 398 = .ok (.iaload, 1) := by decide +kernel
theorem dL_law_399 : decode cL_law 399 = .ok (.invokevirtual 59, 3) := by decide +kernel
theorem dL_law_402 : decode cL_law 402 = .ok (.aload_n 2, 1) := by decide +kernel
theorem dL_law_403 : decode cL_law 403 = .ok (.aload_n 0, 1) := by decide +kernel
theorem dL_law_404 : decode cL_law 404 = .ok (.iload_n 3, 1) := by decide +kernel
theorem dL_law_405 : decode cL_law 405 = .ok (.iconst 1, 1) := by decide +kernel
theorem dL_law_406 : decode cL_law 406 = .ok (.iadd, 1) := by decide +kernel
theorem dL_law_407 : decode cL_law 407 = .ok (.iaload, 1) := by decide +kernel
theorem dL_law_408 : decode cL_law 408 = .ok (.aload_n 0, 1) := by decide +kernel
theorem dL_law_409 : decode cL_law 409 = .ok (.iload_n 3, 1) := by decide +kernel
theorem dL_law_410 : decode cL_law 410 = .ok (.iconst 2, 1) := by decide +kernel
theorem dL_law_411 : decode cL_law 411 = .ok (.iadd, 1) := by decide +kernel
theorem dL_law_412 : decode cL_law 412 = .ok (.iaload, 1) := by decide +kernel
theorem dL_law_413 : decode cL_law 413 = .ok (.invokevirtual 62, 3) := by decide +kernel
theorem dL_law_416 : decode cL_law 416 = .ok (.if_icmp .eq 100, 3) := by decide +kernel
theorem dL_law_419 : decode cL_law 419 = .ok (.iconst 0, 1) := by decide +kernel
theorem dL_law_420 : decode cL_law 420 = .ok (.ireturn, 1) := by decide +kernel
theorem dL_law_421 : decode cL_law 421 = .ok (.aload_n 1, 1) := by decide +kernel
theorem dL_law_422 : decode cL_law 422 = .ok (.aload_n 0, 1) := by decide +kernel
theorem dL_law_423 : decode cL_law 423 = .ok (.iload_n 3, 1) := by decide +kernel
theorem dL_law_424 : decode cL_law 424 = .ok (.iconst 1, 1) := by decide +kernel
theorem dL_law_425 : decode cL_law 425 = .ok (.iadd, 1) := by decide +kernel
theorem dL_law_426 : decode cL_law 426 = .ok (.iaload, 1) := by decide +kernel
theorem dL_law_427 : decode cL_law 427 = .ok (.invokevirtual 63, 3) := by decide +kernel
theorem dL_law_430 : decode cL_law 430 = .ok (.aload_n 2, 1) := by decide +kernel
theorem dL_law_431 : decode cL_law 431 = .ok (.aload_n 0, 1) := by decide +kernel
theorem dL_law_432 : decode cL_law 432 = .ok (.iload_n 3, 1) := by decide +kernel
theorem dL_law_433 : decode cL_law 433 = .ok (.iconst 1, 1) := by decide +kernel
theorem dL_law_434 : decode cL_law 434 = .ok (.iadd, 1) := by decide +kernel
theorem dL_law_435 : decode cL_law 435 = .ok (.iaload, 1) := by decide +kernel
theorem dL_law_436 : decode cL_law 436 = .ok (.invokevirtual 66, 3) := by decide +kernel
theorem dL_law_439 : decode cL_law 439 = .ok (.if_icmp .eq 77, 3) := by decide +kernel
theorem dL_law_442 : decode cL_law 442 = .ok (.iconst 0, 1) := by decide +kernel
theorem dL_law_443 : decode cL_law 443 = .ok (.ireturn, 1) := by decide +kernel
theorem dL_law_444 : decode cL_law 444 = .ok (.aload_n 1, 1) := by decide +kernel
theorem dL_law_445 : decode cL_law 445 = .ok (.aload_n 0, 1) := by decide +kernel
theorem dL_law_446 : decode cL_law 446 = .ok (.iload_n 3, 1) := by decide +kernel
theorem dL_law_447 : decode cL_law 447 = .ok (.iconst 1, 1) := by decide +kernel
theorem dL_law_448 : decode cL_law 448 = .ok (.iadd, 1) := by decide +kernel
theorem dL_law_449 : decode cL_law 449 = .ok (.iaload, 1) := by decide +kernel
theorem dL_law_450 : decode cL_law 450 = .ok (.invokevirtual 67, 3) := by decide +kernel
theorem dL_law_453 : decode cL_law 453 = .ok (.aload_n 2, 1) := by decide +kernel
theorem dL_law_454 : decode cL_law 454 = .ok (.aload_n 0, 1) := by decide +kernel
theorem dL_law_455 : decode cL_law 455 = .ok (.iload_n 3, 1) := by decide +kernel
theorem dL_law_456 : decode cL_law 456 = .ok (.iconst 1, 1) := by decide +kernel
theorem dL_law_457 : decode cL_law 457 = .ok (.iadd, 1) := by decide +kernel
theorem dL_law_458 : decode cL_law 458 = .ok (.iaload, 1) := by decide +kernel
theorem dL_law_459 : decode cL_law 459 = .ok (.invokevirtual 70, 3) := by decide +kernel
theorem dL_law_462 : decode cL_law 462 = .ok (.if_icmp .eq 54, 3) := by decide +kernel
theorem dL_law_465 : decode cL_law 465 = .ok (.iconst 0, 1) := by decide +kernel
theorem dL_law_466 : decode cL_law 466 = .ok (.ireturn, 1) := by decide +kernel
theorem dL_law_467 : decode cL_law 467 = .ok (.aload_n 1, 1) := by decide +kernel
theorem dL_law_468 : decode cL_law 468 = .ok (.invokevirtual 71, 3) := by decide +kernel
theorem dL_law_471 : decode cL_law 471 = .ok (.aload_n 2, 1) := by decide +kernel
theorem dL_law_472 : decode cL_law 472 = .ok (.invokevirtual 74, 3) := by decide +kernel
theorem dL_law_475 : decode cL_law 475 = .ok (.if_icmp .eq 41, 3) := by decide +kernel
theorem dL_law_478 : decode cL_law 478 = .ok (.iconst 0, 1) := by decide +kernel
theorem dL_law_479 : decode cL_law 479 = .ok (.ireturn, 1) := by decide +kernel
theorem dL_law_480 : decode cL_law 480 = .ok (.aload_n 1, 1) := by decide +kernel
theorem dL_law_481 : decode cL_law 481 = .ok (.invokevirtual 75, 3) := by decide +kernel
theorem dL_law_484 : decode cL_law 484 = .ok (.aload_n 2, 1) := by decide +kernel
theorem dL_law_485 : decode cL_law 485 = .ok (.invokevirtual 78, 3) := by decide +kernel
theorem dL_law_488 : decode cL_law 488 = .ok (.if_icmp .eq 28, 3) := by decide +kernel
theorem dL_law_491 : decode cL_law 491 = .ok (.iconst 0, 1) := by decide +kernel
theorem dL_law_492 : decode cL_law 492 = .ok (.ireturn, 1) := by decide +kernel
theorem dL_law_493 : decode cL_law 493 = .ok (.aload_n 1, 1) := by decide +kernel
theorem dL_law_494 : decode cL_law 494 = .ok (.aload_n 0, 1) := by decide +kernel
theorem dL_law_495 : decode cL_law 495 = .ok (.iload_n 3, 1) := by decide +kernel
theorem dL_law_496 : decode cL_law 496 = .ok (.iconst 1, 1) := by decide +kernel
theorem dL_law_497 : decode cL_law 497 = .ok (.iadd, 1) := by decide +kernel
theorem dL_law_498 : decode cL_law 498 = .ok (.iaload, 1) := by decide +kernel
theorem dL_law_499 : decode cL_law 499 = .ok (.invokevirtual 79, 3) := by decide +kernel
theorem dL_law_502 : decode cL_law 502 = .ok (.aload_n 2, 1) := by decide +kernel
theorem dL_law_503 : decode cL_law 503 = .ok (.aload_n 0, 1) := by decide +kernel
theorem dL_law_504 : decode cL_law 504 = .ok (.iload_n 3, 1) := by decide +kernel
theorem dL_law_505 : decode cL_law 505 = .ok (.iconst 1, 1) := by decide +kernel
theorem dL_law_506 : decode cL_law 506 = .ok (.iadd, 1) := by decide +kernel
theorem dL_law_507 : decode cL_law 507 = .ok (.iaload, 1) := by decide +kernel
theorem dL_law_508 : decode cL_law 508 = .ok (.invokevirtual 82, 3) := by decide +kernel
theorem dL_law_511 : decode cL_law 511 = .ok (.if_icmp .eq 5, 3) := by decide +kernel
theorem dL_law_514 : decode cL_law 514 = .ok (.iconst 0, 1) := by decide +kernel
theorem dL_law_515 : decode cL_law 515 = .ok (.ireturn, 1) := by decide +kernel
theorem dL_law_516 : decode cL_law 516 = .ok (.iinc 3 4, 3) := by decide +kernel
theorem dL_law_519 : decode cL_law 519 = .ok (.goto (-501), 3) := by decide +kernel
theorem dL_law_522 : decode cL_law 522 = .ok (.iconst 1, 1) := by decide +kernel
theorem dL_law_523 : decode cL_law 523 = .ok (.ireturn, 1) := by decide +kernel
