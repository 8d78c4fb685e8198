theorem dX5_init_268 : decode cX5_init 268 = .ok (.istore_n 3, 1) := by decide +kernel
theorem dX5_init_269 : decode cX5_init 269 = .ok (.iinc 4 1, 3) := by decide +kernel
theorem dX5_init_272 : decode cX5_init 272 = .ok (.goto (-26), 3) := by decide +kernel
theorem dX5_init_275 : decode cX5_init 275 = .ok (.iload_n 3, 1) := by decide +kernel
theorem dX5_init_276 : decode cX5_init 276 = .ok (.ifCond .ne 6, 3) := by decide +kernel
theorem dX5_init_279 : decode cX5_init 279 = .ok (.goto 38, 3) := by decide +kernel
theorem dX5_init_282 : decode cX5_init 282 = .ok (.iload_n 1, 1) := by decide +kernel
theorem dX5_init_283 : decode cX5_init 283 = .ok (.bipush 8, 2) := by decide +kernel
theorem dX5_init_285 : decode cX5_init 285 = .ok (.if_icmp .ge 16, 3) := by decide +kernel
theorem dX5_init_288 : decode cX5_init 288 = .ok (.aload_n 0, 1) := by decide +kernel
theorem dX5_init_289 : decode cX5_init 289 = .ok (.getfield 74, 3) := by decide +kernel
theorem dX5_init_292 : decode cX5_init 292 = .ok (.iload_n 1, 1) := by decide +kernel
theorem dX5_init_293 : decode cX5_init 293 = .ok (.aload_n 0, 1) := by decide +kernel
theorem dX5_init_294 : decode cX5_init 294 = .ok (.iload_n 2, 1) := by decide +kernel
theorem dX5_init_295 : decode cX5_init 295 = .ok (.iconst 2, 1) := by decide +kernel
theorem dX5_init_296 : decode cX5_init 296 = .ok (.invokevirtual 95, 3) := by decide +kernel
theorem dX5_init_299 : decode cX5_init 299 = .ok (.l2i, 1) := by decide +kernel
theorem dX5_init_300 : decode cX5_init 300 = .ok (.iastore, 1) := by decide +kernel
theorem dX5_init_301 : decode cX5_init 301 = .ok (.aload_n 0, 1) := by decide +kernel
theorem dX5_init_302 : decode cX5_init 302 = .ok (.getfield 77, 3) := by decide +kernel
theorem dX5_init_305 : decode cX5_init 305 = .ok (.iload_n 1, 1) := by decide +kernel
theorem dX5_init_306 : decode cX5_init 306 = .ok (.aload_n 0, 1) := by decide +kernel
theorem dX5_init_307 : decode cX5_init 307 = .ok (.iload_n 2, 1) := by decide +kernel
theorem dX5_init_308 : decode cX5_init 308 = .ok (.iconst 3, 1) := by decide +kernel
theorem dX5_init_309 : decode cX5_init 309 = .ok (.invokevirtual 95, 3) := by decide +kernel
theorem dX5_init_312 : decode cX5_init 312 = .ok (.l2i, 1) := by decide +kernel
theorem dX5_init_313 : decode cX5_init 313 = .ok (.iastore, 1) := by decide +kernel
theorem dX5_init_314 : decode cX5_init 314 = .ok (.iinc 1 1, 3) := by decide +kernel
theorem dX5_init_317 : decode cX5_init 317 = .ok (.iinc 2 1, 3) := by decide +kernel
theorem dX5_init_320 : decode cX5_init 320 = .ok (.goto (-85), 3) := by decide +kernel
theorem dX5_init_323 : decode cX5_init 323 = .ok (.return_, 1) := by decide +kernel
theorem dX5_thrown_0 : decode cX5_thrown 0 = .ok (.aload_n 0, 1) := by decide +kernel
theorem dX5_thrown_1 : decode cX5_thrown 1 = .ok (.getfield 99, 3) := by decide +kernel
theorem dX5_thrown_4 : decode cX5_thrown 4 = .ok (.ireturn, 1) := by decide +kernel
theorem dX5_raise_0 : decode cX5_raise 0 = .ok (.iconst 0, 1) := by decide +kernel
theorem dX5_raise_1 : decode cX5_raise 1 = .ok (.istore 4, 2) := by decide +kernel
theorem dX5_raise_3 : decode cX5_raise 3 = .ok (.iload 4, 2) := by decide +kernel
theorem dX5_raise_5 : decode cX5_raise 5 = .ok (.bipush 12, 2) := by decide +kernel
theorem dX5_raise_7 : decode cX5_raise 7 = .ok (.if_icmp .ge 26, 3) := by decide +kernel
theorem dX5_raise_10 : decode cX5_raise 10 = .ok (.aload_n 0, 1) := by decide +kernel
theorem dX5_raise_11 : decode cX5_raise 11 = .ok (.getfield 80, 3) := by decide +kernel
theorem dX5_raise_14 : decode cX5_raise 14 = .ok (.iload 4, 2) := by decide +kernel
theorem dX5_raise_16 : decode cX5_raise 16 = .ok (.iload 4, 2) := by decide +kernel
theorem dX5_raise_18 : decode cX5_raise 18 = .ok (.ifCond .ne 7, 3) := by decide +kernel
theorem dX5_raise_21 : decode cX5_raise 21 = .ok (.iconst 1, 1) := by decide +kernel
theorem dX5_raise_22 : decode cX5_raise 22 = .ok (.goto 4, 3) := by decide +kernel
theorem dX5_raise_25 : decode cX5_raise 25 = .ok (.iconst 0, 1) := by decide +kernel
theorem dX5_raise_26 : decode cX5_raise 26 = .ok (.iastore, 1) := by decide +kernel
theorem dX5_raise_27 : decode cX5_raise 27 = .ok (.iinc 4 1, 3) := by decide +kernel
theorem dX5_raise_30 : decode cX5_raise 30 = .ok (.goto (-27), 3) := by decide +kernel
theorem dX5_raise_33 : decode cX5_raise 33 = .ok (.iconst 0, 1) := by decide +kernel
theorem dX5_raise_34 : decode cX5_raise 34 = .ok (.istore 4, 2) := by decide +kernel
theorem dX5_raise_36 : decode cX5_raise 36 = .ok (.iload 4, 2) := by decide +kernel
theorem dX5_raise_38 : decode cX5_raise 38 = .ok (.iload_n 3, 1) := by decide +kernel
theorem dX5_raise_39 : decode cX5_raise 39 = .ok (.if_icmp .ge 161, 3) := by decide +kernel
theorem dX5_raise_42 : decode cX5_raise 42 = .ok (.iconst 0, 1) := by decide +kernel
theorem dX5_raise_43 : decode cX5_raise 43 = .ok (.istore 5, 2) := by decide +kernel
theorem dX5_raise_45 : decode cX5_raise 45 = .ok (.iload 5, 2) := by decide +kernel
theorem dX5_raise_47 : decode cX5_raise 47 = .ok (.bipush 12, 2) := by decide +kernel
theorem dX5_raise_49 : decode cX5_raise 49 = .ok (.if_icmp .ge 23, 3) := by decide +kernel
theorem dX5_raise_52 : decode cX5_raise 52 = .ok (.aload_n 0, 1) := by decide +kernel
theorem dX5_raise_53 : decode cX5_raise 53 = .ok (.getfield 83, 3) := by decide +kernel
theorem dX5_raise_56 : decode cX5_raise 56 = .ok (.iload 5, 2) := by decide +kernel
theorem dX5_raise_58 : decode cX5_raise 58 = .ok (.aload_n 0, 1) := by decide +kernel
theorem dX5_raise_59 : decode cX5_raise 59 = .ok (.getfield 80, 3) := by decide +kernel
theorem dX5_raise_62 : decode cX5_raise 62 = .ok (.iload 5, 2) := by decide +kernel
theorem dX5_raise_64 : decode cX5_raise 64 = .ok (.iaload, 1) := by decide +kernel
theorem dX5_raise_65 : decode cX5_raise 65 = .ok (.iastore, 1) := by decide +kernel
theorem dX5_raise_66 : decode cX5_raise 66 = .ok (.iinc 5 1, 3) := by decide +kernel
theorem dX5_raise_69 : decode cX5_raise 69 = .ok (.goto (-24), 3) := by decide +kernel
theorem dX5_raise_72 : decode cX5_raise 72 = .ok (.iconst 0, 1) := by decide +kernel
theorem dX5_raise_73 : decode cX5_raise 73 = .ok (.istore 5, 2) := by decide +kernel
theorem dX5_raise_75 : decode cX5_raise 75 = .ok (.iload 5, 2) := by decide +kernel
theorem dX5_raise_77 : decode cX5_raise 77 = .ok (.bipush 12, 2) := by decide +kernel
theorem dX5_raise_79 : decode cX5_raise 79 = .ok (.if_icmp .ge 17, 3) := by decide +kernel
theorem dX5_raise_82 : decode cX5_raise 82 = .ok (.aload_n 0, 1) := by decide +kernel
theorem dX5_raise_83 : decode cX5_raise 83 = .ok (.getfield 80, 3) := by decide +kernel
theorem dX5_raise_86 : decode cX5_raise 86 = .ok (.iload 5, 2) := by decide +kernel
theorem dX5_raise_88 : decode cX5_raise 88 = .ok (.iconst 0, 1) := by decide +kernel
theorem dX5_raise_89 : decode cX5_raise 89 = .ok (.iastore, 1) := by decide +kernel
theorem dX5_raise_90 : decode cX5_raise 90 = .ok (.iinc 5 1, 3) := by decide +kernel
theorem dX5_raise_93 : decode cX5_raise 93 = .ok (.goto (-18), 3) := by decide +kernel
theorem dX5_raise_96 : decode cX5_raise 96 = .ok (.iconst 0, 1) := by decide +kernel
theorem dX5_raise_97 : decode cX5_raise 97 = .ok (.istore 5, 2) := by decide +kernel
theorem dX5_raise_99 : decode cX5_raise 99 = .ok (.iload 5, 2) := by decide +kernel
theorem dX5_raise_101 : decode cX5_raise 101 = .ok (.iconst 3, 1) := by decide +kernel
theorem dX5_raise_102 : decode cX5_raise 102 = .ok (.if_icmp .ge 92, 3) := by decide +kernel
theorem dX5_raise_105 : decode cX5_raise 105 = .ok (.lconst 0, 1) := by decide +kernel
theorem dX5_raise_106 : decode cX5_raise 106 = .ok (.lstore 6, 2) := by decide +kernel
theorem dX5_raise_108 : decode cX5_raise 108 = .ok (.iconst 0, 1) := by decide +kernel
theorem dX5_raise_109 : decode cX5_raise 109 = .ok (.istore 8, 2) := by decide +kernel
theorem dX5_raise_111 : decode cX5_raise 111 = .ok (.iload 5, 2) := by decide +kernel
theorem dX5_raise_113 : decode cX5_raise 113 = .ok (.iload 8, 2) := by decide +kernel
theorem dX5_raise_115 : decode cX5_raise 115 = .ok (.iadd, 1) := by decide +kernel
theorem dX5_raise_116 : decode cX5_raise 116 = .ok (.bipush 12, 2) := by decide +kernel
theorem dX5_raise_118 : decode cX5_raise 118 = .ok (.if_icmp .ge 70, 3) := by decide +kernel
theorem dX5_raise_121 : decode cX5_raise 121 = .ok (.lload 6, 2) := by decide +kernel
theorem dX5_raise_123 : decode cX5_raise 123 = .ok (.aload_n 0, 1) := by decide +kernel
theorem dX5_raise_124 : decode cX5_raise 124 = .ok (.getfield 80, 3) := by decide +kernel
theorem dX5_raise_127 : decode cX5_raise 127 = .ok (.iload 5, 2) := by decide +kernel
theorem dX5_raise_129 : decode cX5_raise 129 = .ok (.iload 8, 2) := by decide +kernel
theorem dX5_raise_131 : decode cX5_raise 131 = .ok (.iadd, 1) := by decide +kernel
theorem dX5_raise_132 : decode cX5_raise 132 = .ok (.iaload, 1) := by decide +kernel
theorem dX5_raise_133 : decode cX5_raise 133 = .ok (.i2l, 1) := by decide +kernel
theorem dX5_raise_134 : decode cX5_raise 134 = .ok (.ladd, 1) := by decide +kernel
theorem dX5_raise_135 : decode cX5_raise 135 = .ok (.lload_n 1, 1) := by decide +kernel
theorem dX5_raise_136 : decode cX5_raise 136 = .ok (.bipush 16, 2) := by decide +kernel
theorem dX5_raise_138 : decode cX5_raise 138 = .ok (.iload 5, 2) := by decide +kernel
theorem dX5_raise_140 : decode cX5_raise 140 = .ok (.imul, 1) := by decide +kernel
theorem dX5_raise_141 : decode cX5_raise 141 = .ok (.lshr, 1) := by decide +kernel
theorem dX5_raise_142 : decode cX5_raise 142 = .ok (.ldc2_w 103, 3) := by decide +kernel
theorem dX5_raise_145 : decode cX5_raise 145 = .ok (.land, 1) := by decide +kernel
theorem dX5_raise_146 : decode cX5_raise 146 = .ok (.aload_n 0, 1) := by decide +kernel
theorem dX5_raise_147 : decode cX5_raise 147 = .ok (.getfield 83, 3) := by decide +kernel
theorem dX5_raise_150 : decode cX5_raise 150 = .ok (.iload 8, 2) := by decide +kernel
theorem dX5_raise_152 : decode cX5_raise 152 = .ok (.iaload, 1) := by decide +kernel
theorem dX5_raise_153 : decode cX5_raise 153 = .ok (.i2l, 1) := by decide +kernel
theorem dX5_raise_154 : decode cX5_raise 154 = .ok (.lmul, 1) := by decide +kernel
theorem dX5_raise_155 : decode cX5_raise 155 = .ok (.ladd, 1) := by decide +kernel
theorem dX5_raise_156 : decode cX5_raise 156 = .ok (.lstore 6, 2) := by decide +kernel
theorem dX5_raise_158 : decode cX5_raise 158 = .ok (.aload_n 0, 1) := by decide +kernel
theorem dX5_raise_159 : decode cX5_raise 159 = .ok (.getfield 80, 3) := by decide +kernel
theorem dX5_raise_162 : decode cX5_raise 162 = .ok (.iload 5, 2) := by decide +kernel
theorem dX5_raise_164 : decode cX5_raise 164 = .ok (.iload 8, 2) := by decide +kernel
theorem dX5_raise_166 : decode cX5_raise 166 = .ok (.iadd, 1) := by decide +kernel
theorem dX5_raise_167 : decode cX5_raise 167 = .ok (.lload 6, 2) := by decide +kernel
theorem dX5_raise_169 : decode cX5_raise 169 = .ok (.ldc2_w 103, 3) := by decide +kernel
theorem dX5_raise_172 : decode cX5_raise 172 = .ok (.land, 1) := by decide +kernel
theorem dX5_raise_173 : decode cX5_raise 173 = .ok (.l2i, 1) := by decide +kernel
theorem dX5_raise_174 : decode cX5_raise 174 = .ok (.iastore, 1) := by decide +kernel
theorem dX5_raise_175 : decode cX5_raise 175 = .ok (.lload 6, 2) := by decide +kernel
theorem dX5_raise_177 : decode cX5_raise 177 = .ok (.bipush 16, 2) := by decide +kernel
theorem dX5_raise_179 : decode cX5_raise 179 = .ok (.lshr, 1) := by decide +kernel
theorem dX5_raise_180 : decode cX5_raise 180 = .ok (.lstore 6, 2) := by decide +kernel
theorem dX5_raise_182 : decode cX5_raise 182 = .ok (.iinc 8 1, 3) := by decide +kernel
theorem dX5_raise_185 : decode cX5_raise 185 = .ok (.goto (-74), 3) := by decide +kernel
theorem dX5_raise_188 : decode cX5_raise 188 = .ok (.iinc 5 1, 3) := by decide +kernel
theorem dX5_raise_191 : decode cX5_raise 191 = .ok (.goto (-92), 3) := by decide +kernel
theorem dX5_raise_194 : decode cX5_raise 194 = .ok (.iinc 4 1, 3) := by decide +kernel
theorem dX5_raise_197 : decode cX5_raise 197 = .ok (.goto (-161), 3) := by decide +kernel
theorem dX5_raise_200 : decode cX5_raise 200 = .ok (.return_, 1) := by decide +kernel
set_option maxRecDepth 20000 in
theorem ggX5_root_X5_raise : GoodIn wsX5_root wsX5_raise := goodIn_ca (goodIn_r _ [6, 1, 7, 8, 9, 10, 11, 12, 13, 14, 15, 16, 17, 18, 19, 20, 21, 22, 23, 24, 25, 26, 27, 28, 29, 30, 31, 32, 33, 34, 35, 36, 37, 38, 39, 40, 41, 42, 43, 44] (by decide +kernel) (by decide +kernel)) (goodIn_sub (fun _ h => List.mem_cons_of_mem _ (List.mem_append_right _ h)) (by decide +kernel))
set_option maxRecDepth 20000 in
theorem gX5_root_X5_raise : GoodIn wsX5_root (wsV RX5 105 RX5 yX5_raise wsX5_raise) := goodIn_app (goodIn_of _ (by decide +kernel)) ggX5_root_X5_raise
theorem dX5_root_0 : decode cX5_root 0 = .ok (.lconst 0, 1) := by decide +kernel
theorem dX5_root_1 : decode cX5_root 1 = .ok (.lstore_n 3, 1) := by decide +kernel
theorem dX5_root_2 : decode cX5_root 2 = .ok (.bipush 37, 2) := by decide +kernel
theorem dX5_root_4 : decode cX5_root 4 = .ok (.istore 5, 2) := by decide +kernel
theorem dX5_root_6 : decode cX5_root 6 = .ok (.iload 5, 2) := by decide +kernel
theorem dX5_root_8 : decode cX5_root 8 = .ok (.ifCond .lt 130, 3) := by decide +kernel
theorem dX5_root_11 : decode cX5_root 11 = .ok (.aload_n 0, 1) := by decide +kernel
theorem dX5_root_12 : decode cX5_root 12 = .ok (.lload_n 3, 1) := by decide +kernel
theorem dX5_root_13 : decode cX5_root 13 = .ok (.lconst 1, 1) := by decide +kernel
theorem dX5_root_14 : decode cX5_root 14 = .ok (.iload 5, 2) := by decide +kernel
theorem dX5_root_16 : decode cX5_root 16 = .ok (.lshl, 1) := by decide +kernel
theorem dX5_root_17 : decode cX5_root 17 = .ok (.lor, 1) := by decide +kernel
theorem dX5_root_18 : decode cX5_root 18 = .ok (.iload_n 2, 1) := by decide +kernel
theorem dX5_root_19 : decode cX5_root 19 = .ok (.invokevirtual 105, 3) := by decide +kernel
theorem dX5_root_22 : decode cX5_root 22 = .ok (.iconst 0, 1) := by decide +kernel
theorem dX5_root_23 : decode cX5_root 23 = .ok (.istore 6, 2) := by decide +kernel
theorem dX5_root_25 : decode cX5_root 25 = .ok (.iconst 0, 1) := by decide +kernel
theorem dX5_root_26 : decode cX5_root 26 = .ok (.istore 7, 2) := by decide +kernel
theorem dX5_root_28 : decode cX5_root 28 = .ok (.bipush 11, 2) := by decide +kernel
theorem dX5_root_30 : decode cX5_root 30 = .ok (.istore 8, 2) := by decide +kernel
theorem dX5_root_32 : decode cX5_root 32 = .ok (.iload 8, 2) := by decide +kernel
theorem dX5_root_34 : decode cX5_root 34 = .ok (.ifCond .lt 82, 3) := by decide +kernel
theorem dX5_root_37 : decode cX5_root 37 = .ok (.iload 8, 2) := by decide +kernel
theorem dX5_root_39 : decode cX5_root 39 = .ok (.iconst 2, 1) := by decide +kernel
theorem dX5_root_40 : decode cX5_root 40 = .ok (.iload_n 2, 1) := by decide +kernel
theorem dX5_root_41 : decode cX5_root 41 = .ok (.imul, 1) := by decide +kernel
theorem dX5_root_42 : decode cX5_root 42 = .ok (.if_icmp .ne 7, 3) := by decide +kernel
theorem dX5_root_45 : decode cX5_root 45 = .ok (.iload_n 1, 1) := by decide +kernel
theorem dX5_root_46 : decode cX5_root 46 = .ok (.goto 4, 3) := by decide +kernel
theorem dX5_root_49 : decode cX5_root 49 = .ok (.iconst 0, 1) := by decide +kernel
theorem dX5_root_50 : decode cX5_root 50 = .ok (.istore 9, 2) := by decide +kernel
theorem dX5_root_52 : decode cX5_root 52 = .ok (.iload 6, 2) := by decide +kernel
theorem dX5_root_54 : decode cX5_root 54 = .ok (.ifCond .ne 20, 3) := by decide +kernel
theorem dX5_root_57 : decode cX5_root 57 = .ok (.iload 7, 2) := by decide +kernel
theorem dX5_root_59 : decode cX5_root 59 = .ok (.ifCond .ne 19, 3) := by decide +kernel
theorem dX5_root_62 : decode cX5_root 62 = .ok (.aload_n 0, 1) := by decide +kernel
theorem dX5_root_63 : decode cX5_root 63 = .ok (.getfield 80, 3) := by decide +kernel
theorem dX5_root_66 : decode cX5_root 66 = .ok (.iload 8, 2) := by decide +kernel
theorem dX5_root_68 : decode cX5_root 68 = .ok (.iaload, 1) := by decide +kernel
theorem dX5_root_69 : decode cX5_root 69 = .ok (.iload 9, 2) := by decide +kernel
theorem dX5_root_71 : decode cX5_root 71 = .ok (.if_icmp .le 7, 3) := by decide +kernel
theorem dX5_root_74 : decode cX5_root 74 = .ok (.iconst 1, 1) := by decide +kernel
theorem dX5_root_75 : decode cX5_root 75 = .ok (.goto 4, 3) := by decide +kernel
theorem dX5_root_78 : decode cX5_root 78 = .ok (.iconst 0, 1) := by decide +kernel
theorem dX5_root_79 : decode cX5_root 79 = .ok (.istore 6, 2) := by decide +kernel
theorem dX5_root_81 : decode cX5_root 81 = .ok (.iload 7, 2) := by decide +kernel
theorem dX5_root_83 : decode cX5_root 83 = .ok (.ifCond .ne 20, 3) := by decide +kernel
theorem dX5_root_86 : decode cX5_root 86 = .ok (.iload 6, 2) := by decide +kernel
theorem dX5_root_88 : decode cX5_root 88 = .ok (.ifCond .ne 19, 3) := by decide +kernel
theorem dX5_root_91 : decode cX5_root 91 = .ok (.aload_n 0, 1) := by decide +kernel
theorem dX5_root_92 : decode cX5_root 92 = .ok (.getfield 80, 3) := by decide +kernel
theorem dX5_root_95 : decode cX5_root 95 = .ok (.iload 8, 2) := by decide +kernel
theorem dX5_root_97 : decode cX5_root 97 = .ok (.iaload, 1) := by decide +kernel
theorem dX5_root_98 : decode cX5_root 98 = .ok (.iload 9, 2) := by decide +kernel
theorem dX5_root_100 : decode cX5_root 100 = .ok (.if_icmp .ge 7, 3) := by decide +kernel
theorem dX5_root_103 : decode cX5_root 103 = .ok (.iconst 1, 1) := by decide +kernel
theorem dX5_root_104 : decode cX5_root 104 = .ok (.goto 4, 3) := by decide +kernel
theorem dX5_root_107 : decode cX5_root 107 = .ok (.iconst 0, 1) := by decide +kernel
theorem dX5_root_108 : decode cX5_root 108 = .ok (.istore 7, 2) := by decide +kernel
theorem dX5_root_110 : decode cX5_root 110 = .ok (.iinc 8 (-1), 3) := by decide +kernel
theorem dX5_root_113 : decode cX5_root 113 = .ok (.goto (-81), 3) := by decide +kernel
theorem dX5_root_116 : decode cX5_root 116 = .ok (.iload 6, 2) := by decide +kernel
theorem dX5_root_118 : decode cX5_root 118 = .ok (.ifCond .eq 7, 3) := by decide +kernel
theorem dX5_root_121 : decode cX5_root 121 = .ok (.lload_n 3, 1) := by decide +kernel
theorem dX5_root_122 : decode cX5_root 122 = .ok (.goto 9, 3) := by decide +kernel
theorem dX5_root_125 : decode cX5_root 125 = .ok (.lload_n 3, 1) := by decide +kernel
theorem dX5_root_126 : decode cX5_root 126 = .ok (.lconst 1, 1) := by decide +kernel
theorem dX5_root_127 : decode cX5_root 127 = .ok (.iload 5, 2) := by decide +kernel
theorem dX5_root_129 : decode cX5_root 129 = .ok (.lshl, 1) := by decide +kernel
theorem dX5_root_130 : decode cX5_root 130 = .ok (.lor, 1) := by decide +kernel
theorem dX5_root_131 : decode cX5_root 131 = .ok (.lstore_n 3, 1) := by decide +kernel
theorem dX5_root_132 : decode cX5_root 132 = .ok (.iinc 5 (-1), 3) := by decide +kernel
theorem dX5_root_135 : decode cX5_root 135 = .ok (.goto (-129), 3) := by decide +kernel
theorem dX5_root_138 : decode cX5_root 138 = .ok (.lload_n 3, 1) := by decide +kernel
theorem dX5_root_139 : decode cX5_root 139 = .ok (.lreturn, 1) := by decide +kernel
theorem dX5_turned_0 : decode cX5_turned 0 = .ok (.iload_n 0, 1) := by decide +kernel
theorem dX5_turned_1 : decode cX5_turned 1 = .ok (.iload_n 1, 1) := by decide +kernel
theorem dX5_turned_2 : decode cX5_turned 2 = .ok (.iushr, 1) := by decide +kernel
theorem dX5_turned_3 : decode cX5_turned 3 = .ok (.iload_n 0, 1) := by decide +kernel
theorem dX5_turned_4 : decode cX5_turned 4 = .ok (.bipush 32, 2) := by decide +kernel
theorem dX5_turned_6 : decode cX5_turned 6 = .ok (.iload_n 1, 1) := by decide +kernel
theorem dX5_turned_7 : decode cX5_turned 7 = .ok (.isub, 1) := by decide +kernel
theorem dX5_turned_8 : decode cX5_turned 8 = .ok (.ishl, 1) := by decide +kernel
theorem dX5_turned_9 : decode cX5_turned 9 = .ok (.ior, 1) := by decide +kernel
theorem dX5_turned_10 : decode cX5_turned 10 = .ok (.ireturn, 1) := by decide +kernel
theorem dX5_padded_0 : decode cX5_padded 0 = .ok (.aload_n 0, 1) := by decide +kernel
theorem dX5_padded_1 : decode cX5_padded 1 = .ok (.getfield 47, 3) := by decide +kernel
theorem dX5_padded_4 : decode cX5_padded 4 = .ok (.iload_n 1, 1) := by decide +kernel
theorem dX5_padded_5 : decode cX5_padded 5 = .ok (.iaload, 1) := by decide +kernel
theorem dX5_padded_6 : decode cX5_padded 6 = .ok (.istore 4, 2) := by decide +kernel
theorem dX5_padded_8 : decode cX5_padded 8 = .ok (.iload_n 2, 1) := by decide +kernel
theorem dX5_padded_9 : decode cX5_padded 9 = .ok (.iload 4, 2) := by decide +kernel
theorem dX5_padded_11 : decode cX5_padded 11 = .ok (.if_icmp .ge 16, 3) := by decide +kernel
theorem dX5_padded_14 : decode cX5_padded 14 = .ok (.aload_n 0, 1) := by decide +kernel
theorem dX5_padded_15 : decode cX5_padded 15 = .ok (.getfield 65, 3) := by decide +kernel
theorem dX5_padded_18 : decode cX5_padded 18 = .ok (.sipush 256, 3) := by decide +kernel
theorem dX5_padded_21 : decode cX5_padded 21 = .ok (.iload_n 1, 1) := by decide +kernel
theorem dX5_padded_22 : decode cX5_padded 22 = .ok (.imul, 1) := by decide +kernel
theorem dX5_padded_23 : decode cX5_padded 23 = .ok (.iload_n 2, 1) := by decide +kernel
theorem dX5_padded_24 : decode cX5_padded 24 = .ok (.iadd, 1) := by decide +kernel
theorem dX5_padded_25 : decode cX5_padded 25 = .ok (.iaload, 1) := by decide +kernel
theorem dX5_padded_26 : decode cX5_padded 26 = .ok (.ireturn, 1) := by decide +kernel
theorem dX5_padded_27 : decode cX5_padded 27 = .ok (.iload_n 2, 1) := by decide +kernel
theorem dX5_padded_28 : decode cX5_padded 28 = .ok (.iload 4, 2) := by decide +kernel
theorem dX5_padded_30 : decode cX5_padded 30 = .ok (.if_icmp .ne 7, 3) := by decide +kernel
theorem dX5_padded_33 : decode cX5_padded 33 = .ok (.sipush 128, 3) := by decide +kernel
theorem dX5_padded_36 : decode cX5_padded 36 = .ok (.ireturn, 1) := by decide +kernel
theorem dX5_padded_37 : decode cX5_padded 37 = .ok (.iload_n 3, 1) := by decide +kernel
theorem dX5_padded_38 : decode cX5_padded 38 = .ok (.iconst 1, 1) := by decide +kernel
theorem dX5_padded_39 : decode cX5_padded 39 = .ok (.isub, 1) := by decide +kernel
theorem dX5_padded_40 : decode cX5_padded 40 = .ok (.iload_n 2, 1) := by decide +kernel
theorem dX5_padded_41 : decode cX5_padded 41 = .ok (.isub, 1) := by decide +kernel
theorem dX5_padded_42 : decode cX5_padded 42 = .ok (.istore 5, 2) := by decide +kernel
theorem dX5_padded_44 : decode cX5_padded 44 = .ok (.iload 5, 2) := by decide +kernel
theorem dX5_padded_46 : decode cX5_padded 46 = .ok (.iconst 4, 1) := by decide +kernel
theorem dX5_padded_47 : decode cX5_padded 47 = .ok (.if_icmp .ge 21, 3) := by decide +kernel
theorem dX5_padded_50 : decode cX5_padded 50 = .ok (.bipush 8, 2) := by decide +kernel
theorem dX5_padded_52 : decode cX5_padded 52 = .ok (.iload 4, 2) := by decide +kernel
theorem dX5_padded_54 : decode cX5_padded 54 = .ok (.imul, 1) := by decide +kernel
theorem dX5_padded_55 : decode cX5_padded 55 = .ok (.bipush 8, 2) := by decide +kernel
theorem dX5_padded_57 : decode cX5_padded 57 = .ok (.iload 5, 2) := by decide +kernel
theorem dX5_padded_59 : decode cX5_padded 59 = .ok (.imul, 1) := by decide +kernel
theorem dX5_padded_60 : decode cX5_padded 60 = .ok (.ishr, 1) := by decide +kernel
theorem dX5_padded_61 : decode cX5_padded 61 = .ok (.sipush 255, 3) := by decide +kernel
theorem dX5_padded_64 : decode cX5_padded 64 = .ok (.iand, 1) := by decide +kernel
theorem dX5_padded_65 : decode cX5_padded 65 = .ok (.goto 4, 3) := by decide +kernel
theorem dX5_padded_68 : decode cX5_padded 68 = .ok (.iconst 0, 1) := by decide +kernel
theorem dX5_padded_69 : decode cX5_padded 69 = .ok (.ireturn, 1) := by decide +kernel
set_option maxRecDepth 20000 in
theorem ggX5_findDigest_X5_padded : GoodIn wsX5_findDigest wsX5_padded := goodIn_ca (goodIn_r _ [13, 1, 14, 22, 23, 24, 25, 26, 27, 28, 29, 30, 31, 32, 33, 34, 35, 36, 37, 38, 39, 40, 41, 42, 43, 44, 45, 46, 47, 48, 49, 50, 51, 52, 53, 54, 55, 56, 57] (by decide +kernel) (by decide +kernel)) (goodIn_sub (fun _ h => List.mem_cons_of_mem _ (List.mem_append_right _ h)) (by decide +kernel))
set_option maxRecDepth 20000 in
theorem gX5_findDigest_X5_padded : GoodIn wsX5_findDigest (wsV RX5 109 RX5 yX5_padded wsX5_padded) := goodIn_app (goodIn_of _ (by decide +kernel)) ggX5_findDigest_X5_padded
set_option maxRecDepth 20000 in
theorem ggX5_findDigest_X5_turned : GoodIn wsX5_findDigest wsX5_turned := goodIn_r _ [17] (by decide +kernel) (by decide +kernel)
set_option maxRecDepth 20000 in
theorem gX5_findDigest_X5_turned : GoodIn wsX5_findDigest (va_wsS RX5 113 yX5_turned wsX5_turned) := goodIn_app (goodIn_of _ (by decide +kernel)) ggX5_findDigest_X5_turned
set_option maxRecDepth 20000 in
theorem ggX5_findDigest_X5_at : GoodIn wsX5_findDigest wsX5_at := goodIn_ca (goodIn_r _ [21, 5, 22, 23, 24, 25, 26, 27, 28, 29, 30, 31, 32, 33, 34, 35, 36, 37, 38, 39, 40, 41, 42, 43, 44, 45, 46, 47, 48, 49, 50, 51, 52, 53, 54, 55, 56, 57] (by decide +kernel) (by decide +kernel)) (goodIn_sub (fun _ h => List.mem_cons_of_mem _ (List.mem_append_right _ h)) (by decide +kernel))
set_option maxRecDepth 20000 in
theorem gX5_findDigest_X5_at : GoodIn wsX5_findDigest (wsV RX5 117 RX5 yX5_at wsX5_at) := goodIn_app (goodIn_of _ (by decide +kernel)) ggX5_findDigest_X5_at
theorem dX5_findDigest_0 : decode cX5_findDigest 0 = .ok (.bipush 64, 2) := by decide +kernel
theorem dX5_findDigest_2 : decode cX5_findDigest 2 = .ok (.istore_n 2, 1) := by decide +kernel
theorem dX5_findDigest_3 : decode cX5_findDigest 3 = .ok (.iload_n 2, 1) := by decide +kernel
theorem dX5_findDigest_4 : decode cX5_findDigest 4 = .ok (.aload_n 0, 1) := by decide +kernel
theorem dX5_findDigest_5 : decode cX5_findDigest 5 = .ok (.getfield 47, 3) := by decide +kernel
theorem dX5_findDigest_8 : decode cX5_findDigest 8 = .ok (.iload_n 1, 1) := by decide +kernel
theorem dX5_findDigest_9 : decode cX5_findDigest 9 = .ok (.iaload, 1) := by decide +kernel
theorem dX5_findDigest_10 : decode cX5_findDigest 10 = .ok (.bipush 9, 2) := by decide +kernel
theorem dX5_findDigest_12 : decode cX5_findDigest 12 = .ok (.iadd, 1) := by decide +kernel
theorem dX5_findDigest_13 : decode cX5_findDigest 13 = .ok (.if_icmp .ge 11, 3) := by decide +kernel
theorem dX5_findDigest_16 : decode cX5_findDigest 16 = .ok (.iload_n 2, 1) := by decide +kernel
theorem dX5_findDigest_17 : decode cX5_findDigest 17 = .ok (.bipush 64, 2) := by decide +kernel
theorem dX5_findDigest_19 : decode cX5_findDigest 19 = .ok (.iadd, 1) := by decide +kernel
theorem dX5_findDigest_20 : decode cX5_findDigest 20 = .ok (.istore_n 2, 1) := by decide +kernel
theorem dX5_findDigest_21 : decode cX5_findDigest 21 = .ok (.goto (-18), 3) := by decide +kernel
theorem dX5_findDigest_24 : decode cX5_findDigest 24 = .ok (.iconst 0, 1) := by decide +kernel
theorem dX5_findDigest_25 : decode cX5_findDigest 25 = .ok (.istore_n 3, 1) := by decide +kernel
theorem dX5_findDigest_26 : decode cX5_findDigest 26 = .ok (.iload_n 3, 1) := by decide +kernel
theorem dX5_findDigest_27 : decode cX5_findDigest 27 = .ok (.bipush 8, 2) := by decide +kernel
theorem dX5_findDigest_29 : decode cX5_findDigest 29 = .ok (.if_icmp .ge 21, 3) := by decide +kernel
theorem dX5_findDigest_32 : decode cX5_findDigest 32 = .ok (.aload_n 0, 1) := by decide +kernel
theorem dX5_findDigest_33 : decode cX5_findDigest 33 = .ok (.getfield 86, 3) := by decide +kernel
theorem dX5_findDigest_36 : decode cX5_findDigest 36 = .ok (.iload_n 3, 1) := by decide +kernel
theorem dX5_findDigest_37 : decode cX5_findDigest 37 = .ok (.aload_n 0, 1) := by decide +kernel
theorem dX5_findDigest_38 : decode cX5_findDigest 38 = .ok (.getfield 74, 3) := by decide +kernel
theorem dX5_findDigest_41 : decode cX5_findDigest 41 = .ok (.iload_n 3, 1) := by decide +kernel
theorem dX5_findDigest_42 : decode cX5_findDigest 42 = .ok (.iaload, 1) := by decide +kernel
theorem dX5_findDigest_43 : decode cX5_findDigest 43 = .ok (.iastore, 1) := by decide +kernel
theorem dX5_findDigest_44 : decode cX5_findDigest 44 = .ok (.iinc 3 1, 3) := by decide +kernel
theorem dX5_findDigest_47 : decode cX5_findDigest 47 = .ok (.goto (-21), 3) := by decide +kernel
theorem dX5_findDigest_50 : decode cX5_findDigest 50 = .ok (.iconst 0, 1) := by decide +kernel
theorem dX5_findDigest_51 : decode cX5_findDigest 51 = .ok (.istore_n 3, 1) := by decide +kernel
theorem dX5_findDigest_52 : decode cX5_findDigest 52 = .ok (.iload_n 3, 1) := by decide +kernel
theorem dX5_findDigest_53 : decode cX5_findDigest 53 = .ok (.iload_n 2, 1) := by decide +kernel
theorem dX5_findDigest_54 : decode cX5_findDigest 54 = .ok (.if_icmp .ge 473, 3) := by decide +kernel
theorem dX5_findDigest_57 : decode cX5_findDigest 57 = .ok (.iconst 0, 1) := by decide +kernel
theorem dX5_findDigest_58 : decode cX5_findDigest 58 = .ok (.istore 4, 2) := by decide +kernel
theorem dX5_findDigest_60 : decode cX5_findDigest 60 = .ok (.iload 4, 2) := by decide +kernel
theorem dX5_findDigest_62 : decode cX5_findDigest 62 = .ok (.bipush 64, 2) := by decide +kernel
theorem dX5_findDigest_64 : decode cX5_findDigest 64 = .ok (.if_icmp .ge 170, 3) := by decide +kernel
theorem dX5_findDigest_67 : decode cX5_findDigest 67 = .ok (.iload 4, 2) := by decide +kernel
theorem dX5_findDigest_69 : decode cX5_findDigest 69 = .ok (.bipush 16, 2) := by decide +kernel
theorem dX5_findDigest_71 : decode cX5_findDigest 71 = .ok (.if_icmp .ge 63, 3) := by decide +kernel
theorem dX5_findDigest_74 : decode cX5_findDigest 74 = .ok (.aload_n 0, 1) := by decide +kernel
theorem dX5_findDigest_75 : decode cX5_findDigest 75 = .ok (.getfield 89, 3) := by decide +kernel
theorem dX5_findDigest_78 : decode cX5_findDigest 78 = .ok (.iload 4, 2) := by decide +kernel
theorem dX5_findDigest_80 : decode cX5_findDigest 80 = .ok (.iconst 0, 1) := by decide +kernel
theorem dX5_findDigest_81 : decode cX5_findDigest 81 = .ok (.iastore, 1) := by decide +kernel
theorem dX5_findDigest_82 : decode cX5_findDigest 82 = .ok (.iconst 0, 1) := by decide +kernel
theorem dX5_findDigest_83 : decode cX5_findDigest 83 = .ok (.istore 5, 2) := by decide +kernel
theorem dX5_findDigest_85 : decode cX5_findDigest 85 = .ok (.iload 5, 2) := by decide +kernel
theorem dX5_findDigest_87 : decode cX5_findDigest 87 = .ok (.iconst 4, 1) := by decide +kernel
theorem dX5_findDigest_88 : decode cX5_findDigest 88 = .ok (.if_icmp .ge 43, 3) := by decide +kernel
theorem dX5_findDigest_91 : decode cX5_findDigest 91 = .ok (.aload_n 0, 1) := by decide +kernel
theorem dX5_findDigest_92 : decode cX5_findDigest 92 = .ok (.getfield 89, 3) := by decide +kernel
theorem dX5_findDigest_95 : decode cX5_findDigest 95 = .ok (.iload 4, 2) := by decide +kernel
theorem dX5_findDigest_97 : decode cX5_findDigest 97 = .ok (.aload_n 0, 1) := by decide +kernel
theorem dX5_findDigest_98 : decode cX5_findDigest 98 = .ok (.getfield 89, 3) := by decide +kernel
theorem dX5_findDigest_101 : decode cX5_findDigest 101 = .ok (.iload 4, 2) := by decide +kernel
theorem dX5_findDigest_103 : decode cX5_findDigest 103 = .ok (.iaload, 1) := by decide +kernel
theorem dX5_findDigest_104 : decode cX5_findDigest 104 = .ok (.sipush 256, 3) := by decide +kernel
theorem dX5_findDigest_107 : decode cX5_findDigest 107 = .ok (.imul, 1) := by decide +kernel
theorem dX5_findDigest_108 : decode cX5_findDigest 108 = .ok (.aload_n 0, 1) := by decide +kernel
theorem dX5_findDigest_109 : decode cX5_findDigest 109 = .ok (.iload_n 1, 1) := by decide +kernel
theorem dX5_findDigest_110 : decode cX5_findDigest 110 = .ok (.iload_n 3, 1) := by decide +kernel
theorem dX5_findDigest_111 : decode cX5_findDigest 111 = .ok (.iconst 4, 1) := by decide +kernel
theorem dX5_findDigest_112 : decode cX5_findDigest 112 = .ok (.iload 4, 2) := by decide +kernel
theorem dX5_findDigest_114 : decode cX5_findDigest 114 = .ok (.imul, 1) := by decide +kernel
theorem dX5_findDigest_115 : decode cX5_findDigest 115 = .ok (.iadd, 1) := by decide +kernel
theorem dX5_findDigest_116 : decode cX5_findDigest 116 = .ok (.iload 5, 2) := by decide +kernel
theorem dX5_findDigest_118 : decode cX5_findDigest 118 = .ok (.iadd, 1) := by decide +kernel
theorem dX5_findDigest_119 : decode cX5_findDigest 119 = .ok (.iload_n 2, 1) := by decide +kernel
theorem dX5_findDigest_120 : decode cX5_findDigest 120 = .ok (.invokevirtual 109, 3) := by decide +kernel
theorem dX5_findDigest_123 : decode cX5_findDigest 123 = .ok (.iadd, 1) := by decide +kernel
theorem dX5_findDigest_124 : decode cX5_findDigest 124 = .ok (.iastore, 1) := by decide +kernel
theorem dX5_findDigest_125 : decode cX5_findDigest 125 = .ok (.iinc 5 1, 3) := by decide +kernel
theorem dX5_findDigest_128 : decode cX5_findDigest 128 = .ok (.goto (-43), 3) := by decide +kernel
theorem dX5_findDigest_131 : decode cX5_findDigest 131 = .ok (.goto 97, 3) := by decide +kernel
theorem dX5_findDigest_134 : decode cX5_findDigest 134 = .ok (.aload_n 0, 1) := by decide +kernel
theorem dX5_findDigest_135 : decode cX5_findDigest 135 = .ok (.getfield 89, 3) := by decide +kernel
theorem dX5_findDigest_138 : decode cX5_findDigest 138 = .ok (.iload 4, 2) := by decide +kernel
theorem dX5_findDigest_140 : decode cX5_findDigest 140 = .ok (.bipush 15, 2) := by decide +kernel
theorem dX5_findDigest_142 : decode cX5_findDigest 142 = .ok (.isub, 1) := by decide +kernel
theorem dX5_findDigest_143 : decode cX5_findDigest 143 = .ok (.iaload, 1) := by decide +kernel
theorem dX5_findDigest_144 : decode cX5_findDigest 144 = .ok (.istore 5, 2) := by decide +kernel
theorem dX5_findDigest_146 : decode cX5_findDigest 146 = .ok (.aload_n 0, 1) := by decide +kernel
theorem dX5_findDigest_147 : decode cX5_findDigest 147 = .ok (.getfield 89, 3) := by decide +kernel
theorem dX5_findDigest_150 : decode cX5_findDigest 150 = .ok (.iload 4, 2) := by decide +kernel
theorem dX5_findDigest_152 : decode cX5_findDigest 152 = .ok (.iconst 2, 1) := by decide +kernel
theorem dX5_findDigest_153 : decode cX5_findDigest 153 = .ok (.isub, 1) := by decide +kernel
theorem dX5_findDigest_154 : decode cX5_findDigest 154 = .ok (.iaload, 1) := by decide +kernel
theorem dX5_findDigest_155 : decode cX5_findDigest 155 = .ok (.istore 6, 2) := by decide +kernel
theorem dX5_findDigest_157 : decode cX5_findDigest 157 = .ok (.aload_n 0, 1) := by decide +kernel
theorem dX5_findDigest_158 : decode cX5_findDigest 158 = .ok (.getfield 89, 3) := by decide +kernel
theorem dX5_findDigest_161 : decode cX5_findDigest 161 = .ok (.iload 4, 2) := by decide +kernel
theorem dX5_findDigest_163 : decode cX5_findDigest 163 = .ok (.aload_n 0, 1) := by decide +kernel
theorem dX5_findDigest_164 : decode cX5_findDigest 164 = .ok (.getfield 89, 3) := by decide +kernel
theorem dX5_findDigest_167 : decode cX5_findDigest 167 = .ok (.iload 4, 2) := by decide +kernel
theorem dX5_findDigest_169 : decode cX5_findDigest 169 = .ok (.bipush 16, 2) := by decide +kernel
theorem dX5_findDigest_171 : decode cX5_findDigest 171 = .ok (.isub, 1) := by decide +kernel
theorem dX5_findDigest_172 : decode cX5_findDigest 172 = .ok (.iaload, 1) := by decide +kernel
theorem dX5_findDigest_173 : decode cX5_findDigest 173 = .ok (.aload_n 0, 1) := by decide +kernel
theorem dX5_findDigest_174 : decode cX5_findDigest 174 = .ok (.getfield 89, 3) := by decide +kernel
theorem dX5_findDigest_177 : decode cX5_findDigest 177 = .ok (.iload 4, 2) := by decide +kernel
theorem dX5_findDigest_179 : decode cX5_findDigest 179 = .ok (.bipush 7, 2) := by decide +kernel
theorem dX5_findDigest_181 : decode cX5_findDigest 181 = .ok (.isub, 1) := by decide +kernel
theorem dX5_findDigest_182 : decode cX5_findDigest 182 = .ok (.iaload, 1) := by decide +kernel
theorem dX5_findDigest_183 : decode cX5_findDigest 183 = .ok (.iadd, 1) := by decide +kernel
theorem dX5_findDigest_184 : decode cX5_findDigest 184 = .ok (.iload 5, 2) := by decide +kernel
theorem dX5_findDigest_186 : decode cX5_findDigest 186 = .ok (.bipush 7, 2) := by decide +kernel
theorem dX5_findDigest_188 : decode cX5_findDigest 188 = .ok (.invokestatic 113, 3) := by decide +kernel
theorem dX5_findDigest_191 : decode cX5_findDigest 191 = .ok (.iload 5, 2) := by decide +kernel
theorem dX5_findDigest_193 : decode cX5_findDigest 193 = .ok (.bipush 18, 2) := by decide +kernel
theorem dX5_findDigest_195 : decode cX5_findDigest 195 = .ok (.invokestatic 113, 3) := by decide +kernel
theorem dX5_findDigest_198 : decode cX5_findDigest 198 = .ok (.ixor, 1) := by decide +kernel
theorem dX5_findDigest_199 : decode cX5_findDigest 199 = .ok (.iload 5, 2) := by decide +kernel
theorem dX5_findDigest_201 : decode cX5_findDigest 201 = .ok (.iconst 3, 1) := by decide +kernel
theorem dX5_findDigest_202 : decode cX5_findDigest 202 = .ok (.iushr, 1) := by decide +kernel
theorem dX5_findDigest_203 : decode cX5_findDigest 203 = .ok (.ixor, 1) := by decide +kernel
theorem dX5_findDigest_204 : decode cX5_findDigest 204 = .ok (.iadd, 1) := by decide +kernel
theorem dX5_findDigest_205 : decode cX5_findDigest 205 = .ok (.iload 6, 2) := by decide +kernel
theorem dX5_findDigest_207 : decode cX5_findDigest 207 = .ok (.bipush 17, 2) := by decide +kernel
theorem dX5_findDigest_209 : decode cX5_findDigest 209 = .ok (.invokestatic 113, 3) := by decide +kernel
theorem dX5_findDigest_212 : decode cX5_findDigest 212 = .ok (.iload 6, 2) := by decide +kernel
theorem dX5_findDigest_214 : decode cX5_findDigest 214 = .ok (.bipush 19, 2) := by decide +kernel
theorem dX5_findDigest_216 : decode cX5_findDigest 216 = .ok (.invokestatic 113, 3) := by decide +kernel
theorem dX5_findDigest_219 : decode cX5_findDigest 219 = .ok (.ixor, 1) := by decide +kernel
theorem dX5_findDigest_220 : decode cX5_findDigest 220 = .ok (.iload 6, 2) := by decide +kernel
theorem dX5_findDigest_222 : decode cX5_findDigest 222 = .ok (.bipush 10, 2) := by decide +kernel
theorem dX5_findDigest_224 : decode cX5_findDigest 224 = .ok (.iushr, 1) := by decide +kernel
theorem dX5_findDigest_225 : decode cX5_findDigest 225 = .ok (.ixor, 1) := by decide +kernel
theorem dX5_findDigest_226 : decode cX5_findDigest 226 = .ok (.iadd, 1) := by decide +kernel
theorem dX5_findDigest_227 : decode cX5_findDigest 227 = .ok (.iastore, 1) := by decide +kernel
theorem dX5_findDigest_228 : decode cX5_findDigest 228 = .ok (.iinc 4 1, 3) := by decide +kernel
theorem dX5_findDigest_231 : decode cX5_findDigest 231 = .ok (.goto (-171), 3) := by decide +kernel
theorem dX5_findDigest_234 : decode cX5_findDigest 234 = .ok (.iconst 0, 1) := by decide +kernel
theorem dX5_findDigest_235 : decode cX5_findDigest 235 = .ok (.istore 4, 2) := by decide +kernel
theorem dX5_findDigest_237 : decode cX5_findDigest 237 = .ok (.iload 4, 2) := by decide +kernel
theorem dX5_findDigest_239 : decode cX5_findDigest 239 = .ok (.bipush 8, 2) := by decide +kernel
theorem dX5_findDigest_241 : decode cX5_findDigest 241 = .ok (.if_icmp .ge 23, 3) := by decide +kernel
theorem dX5_findDigest_244 : decode cX5_findDigest 244 = .ok (.aload_n 0, 1) := by decide +kernel
theorem dX5_findDigest_245 : decode cX5_findDigest 245 = .ok (.getfield 92, 3) := by decide +kernel
theorem dX5_findDigest_248 : decode cX5_findDigest 248 = .ok (.iload 4, 2) := by decide +kernel
theorem dX5_findDigest_250 : decode cX5_findDigest 250 = .ok (.aload_n 0, 1) := by decide +kernel
theorem dX5_findDigest_251 : decode cX5_findDigest 251 = .ok (.getfield 86, 3) := by decide +kernel
theorem dX5_findDigest_254 : decode cX5_findDigest 254 = .ok (.iload 4, 2) := by decide +kernel
theorem dX5_findDigest_256 : decode cX5_findDigest 256 = .ok (.iaload, 1) := by decide +kernel
theorem dX5_findDigest_257 : decode cX5_findDigest 257 = .ok (.iastore, 1) := by decide +kernel
theorem dX5_findDigest_258 : decode cX5_findDigest 258 = .ok (.iinc 4 1, 3) := by decide +kernel
theorem dX5_findDigest_261 : decode cX5_findDigest 261 = .ok (.goto (-24), 3) := by decide +kernel
theorem dX5_findDigest_264 : decode cX5_findDigest 264 = .ok (.iconst 0, 1) := by decide +kernel
theorem dX5_findDigest_265 : decode cX5_findDigest 265 = .ok (.istore 4, 2) := by decide +kernel
theorem dX5_findDigest_267 : decode cX5_findDigest 267 = .ok (.iload 4, 2) := by decide +kernel
theorem dX5_findDigest_269 : decode cX5_findDigest 269 = .ok (.bipush 64, 2) := by decide +kernel
theorem dX5_findDigest_271 : decode cX5_findDigest 271 = .ok (.if_icmp .ge 212, 3) := by decide +kernel
theorem dX5_findDigest_274 : decode cX5_findDigest 274 = .ok (.aload_n 0, 1) := by decide +kernel
theorem dX5_findDigest_275 : decode cX5_findDigest 275 = .ok (.iconst 4, 1) := by decide +kernel
theorem dX5_findDigest_276 : decode cX5_findDigest 276 = .ok (.iload 4, 2) := by decide +kernel
theorem dX5_findDigest_278 : decode cX5_findDigest 278 = .ok (.invokevirtual 117, 3) := by decide +kernel
theorem dX5_findDigest_281 : decode cX5_findDigest 281 = .ok (.istore 5, 2) := by decide +kernel
theorem dX5_findDigest_283 : decode cX5_findDigest 283 = .ok (.aload_n 0, 1) := by decide +kernel
theorem dX5_findDigest_284 : decode cX5_findDigest 284 = .ok (.iconst 0, 1) := by decide +kernel
theorem dX5_findDigest_285 : decode cX5_findDigest 285 = .ok (.iload 4, 2) := by decide +kernel
theorem dX5_findDigest_287 : decode cX5_findDigest 287 = .ok (.invokevirtual 117, 3) := by decide +kernel
theorem dX5_findDigest_290 : decode cX5_findDigest 290 = .ok (.istore 6, 2) := by decide +kernel
theorem dX5_findDigest_292 : decode cX5_findDigest 292 = .ok (.iload 5, 2) := by decide +kernel
theorem dX5_findDigest_294 : decode cX5_findDigest 294 = .ok (.aload_n 0, 1) := by decide +kernel
theorem dX5_findDigest_295 : decode cX5_findDigest 295 = .ok (.iconst 5, 1) := by decide +kernel
theorem dX5_findDigest_296 : decode cX5_findDigest 296 = .ok (.iload 4, 2) := by decide +kernel
theorem dX5_findDigest_298 : decode cX5_findDigest 298 = .ok (.invokevirtual 117, 3) := by decide +kernel
theorem dX5_findDigest_301 : decode cX5_findDigest 301 = .ok (.iand, 1) := by decide +kernel
theorem dX5_findDigest_302 : decode cX5_findDigest 302 = .ok (.iload 5, 2) := by decide +kernel
theorem dX5_findDigest_304 : decode cX5_findDigest 304 = .ok (.iconst (-1), 1) := by decide +kernel
theorem dX5_findDigest_305 : decode cX5_findDigest 305 = .ok (.ixor, 1) := by decide +kernel
theorem dX5_findDigest_306 : decode cX5_findDigest 306 = .ok (.aload_n 0, 1) := by decide +kernel
theorem dX5_findDigest_307 : decode cX5_findDigest 307 = .ok (.bipush 6, 2) := by decide +kernel
theorem dX5_findDigest_309 : decode cX5_findDigest 309 = .ok (.iload 4, 2) := by decide +kernel
theorem dX5_findDigest_311 : decode cX5_findDigest 311 = .ok (.invokevirtual 117, 3) := by decide +kernel
theorem dX5_findDigest_314 : decode cX5_findDigest 314 = .ok (.iand, 1) := by decide +kernel
theorem dX5_findDigest_315 : decode cX5_findDigest 315 = .ok (.ior, 1) := by decide +kernel
theorem dX5_findDigest_316 : decode cX5_findDigest 316 = .ok (.istore 7, 2) := by decide +kernel
theorem dX5_findDigest_318 : decode cX5_findDigest 318 = .ok (.iload 6, 2) := by decide +kernel
theorem dX5_findDigest_320 : decode cX5_findDigest 320 = .ok (.aload_n 0, 1) := by decide +kernel
theorem dX5_findDigest_321 : decode cX5_findDigest 321 = .ok (.iconst 1, 1) := by decide +kernel
theorem dX5_findDigest_322 : decode cX5_findDigest 322 = .ok (.iload 4, 2) := by decide +kernel
theorem dX5_findDigest_324 : decode cX5_findDigest 324 = .ok (.invokevirtual 117, 3) := by decide +kernel
theorem dX5_findDigest_327 : decode cX5_findDigest 327 = .ok (.iand, 1) := by decide +kernel
theorem dX5_findDigest_328 : decode cX5_findDigest 328 = .ok (.iload 6, 2) := by decide +kernel
theorem dX5_findDigest_330 : decode cX5_findDigest 330 = .ok (.aload_n 0, 1) := by decide +kernel
theorem dX5_findDigest_331 : decode cX5_findDigest 331 = .ok (.iconst 2, 1) := by decide +kernel
theorem dX5_findDigest_332 : decode cX5_findDigest 332 = .ok (.iload 4, 2) := by decide +kernel
theorem dX5_findDigest_334 : decode cX5_findDigest 334 = .ok (.invokevirtual 117, 3) := by decide +kernel
theorem dX5_findDigest_337 : decode cX5_findDigest 337 = .ok (.iand, 1) := by decide +kernel
theorem dX5_findDigest_338 : decode cX5_findDigest 338 = .ok (.ior, 1) := by decide +kernel
theorem dX5_findDigest_339 : decode cX5_findDigest 339 = .ok (.aload_n 0, 1) := by decide +kernel
theorem dX5_findDigest_340 : decode cX5_findDigest 340 = .ok (.iconst 1, 1) := by decide +kernel
theorem dX5_findDigest_341 : decode cX5_findDigest 341 = .ok (.iload 4, 2) := by decide +kernel
theorem dX5_findDigest_343 : decode cX5_findDigest 343 = .ok (.invokevirtual 117, 3) := by decide +kernel
theorem dX5_findDigest_346 : decode cX5_findDigest 346 = .ok (.aload_n 0, 1) := by decide +kernel
theorem dX5_findDigest_347 : decode cX5_findDigest 347 = .ok (.iconst 2, 1) := by decide +kernel
theorem dX5_findDigest_348 : decode cX5_findDigest 348 = .ok (.iload 4, 2) := by decide +kernel
theorem dX5_findDigest_350 : decode cX5_findDigest 350 = .ok (.invokevirtual 117, 3) := by decide +kernel
theorem dX5_findDigest_353 : decode cX5_findDigest 353 = .ok (.iand, 1) := by decide +kernel
theorem dX5_findDigest_354 : decode cX5_findDigest 354 = .ok (.ior, 1) := by decide +kernel
theorem dX5_findDigest_355 : decode cX5_findDigest 355 = .ok (.istore 8, 2) := by decide +kernel
theorem dX5_findDigest_357 : decode cX5_findDigest 357 = .ok (.aload_n 0, 1) := by decide +kernel
theorem dX5_findDigest_358 : decode cX5_findDigest 358 = .ok (.bipush 7, 2) := by decide +kernel
theorem dX5_findDigest_360 : decode cX5_findDigest 360 = .ok (.iload 4, 2) := by decide +kernel
theorem dX5_findDigest_362 : decode cX5_findDigest 362 = .ok (.invokevirtual 117, 3) := by decide +kernel
theorem dX5_findDigest_365 : decode cX5_findDigest 365 = .ok (.iload 5, 2) := by decide +kernel
theorem dX5_findDigest_367 : decode cX5_findDigest 367 = .ok (.bipush 6, 2) := by decide +kernel
theorem dX5_findDigest_369 : decode cX5_findDigest 369 = .ok (.invokestatic 113, 3) := by decide +kernel
theorem dX5_findDigest_372 : decode cX5_findDigest 372 = .ok (.iload 5, 2) := by decide +kernel
theorem dX5_findDigest_374 : decode cX5_findDigest 374 = .ok (.bipush 11, 2) := by decide +kernel
theorem dX5_findDigest_376 : decode cX5_findDigest 376 = .ok (.invokestatic 113, 3) := by decide +kernel
theorem dX5_findDigest_379 : decode cX5_findDigest 379 = .ok (.ixor, 1) := by decide +kernel
theorem dX5_findDigest_380 : decode cX5_findDigest 380 = .ok (.iload 5, 2) := by decide +kernel
theorem dX5_findDigest_382 : decode cX5_findDigest 382 = .ok (.bipush 25, 2) := by decide +kernel
theorem dX5_findDigest_384 : decode cX5_findDigest 384 = .ok (.invokestatic 113, 3) := by decide +kernel
theorem dX5_findDigest_387 : decode cX5_findDigest 387 = .ok (.ixor, 1) := by decide +kernel
theorem dX5_findDigest_388 : decode cX5_findDigest 388 = .ok (.iadd, 1) := by decide +kernel
theorem dX5_findDigest_389 : decode cX5_findDigest 389 = .ok (.iload 7, 2) := by decide +kernel
theorem dX5_findDigest_391 : decode cX5_findDigest 391 = .ok (.iadd, 1) := by decide +kernel
theorem dX5_findDigest_392 : decode cX5_findDigest 392 = .ok (.aload_n 0, 1) := by decide +kernel
theorem dX5_findDigest_393 : decode cX5_findDigest 393 = .ok (.getfield 77, 3) := by decide +kernel
theorem dX5_findDigest_396 : decode cX5_findDigest 396 = .ok (.iload 4, 2) := by decide +kernel
theorem dX5_findDigest_398 : decode cX5_findDigest 398 = .ok (.iaload, 1) := by decide +kernel
theorem dX5_findDigest_399 : decode cX5_findDigest 399 = .ok (.iadd, 1) := by decide +kernel
theorem dX5_findDigest_400 : decode cX5_findDigest 400 = .ok (.aload_n 0, 1) := by decide +kernel
theorem dX5_findDigest_401 : decode cX5_findDigest 401 = .ok (.getfield 89, 3) := by decide +kernel
theorem dX5_findDigest_404 : decode cX5_findDigest 404 = .ok (.iload 4, 2) := by decide +kernel
theorem dX5_findDigest_406 : decode cX5_findDigest 406 = .ok (.iaload, 1) := by decide +kernel
theorem dX5_findDigest_407 : decode cX5_findDigest 407 = .ok (.iadd, 1) := by decide +kernel
theorem dX5_findDigest_408 : decode cX5_findDigest 408 = .ok (.istore 9, 2) := by decide +kernel
theorem dX5_findDigest_410 : decode cX5_findDigest 410 = .ok (.iload 6, 2) := by decide +kernel
theorem dX5_findDigest_412 : decode cX5_findDigest 412 = .ok (.iconst 2, 1) := by decide +kernel
theorem dX5_findDigest_413 : decode cX5_findDigest 413 = .ok (.invokestatic 113, 3) := by decide +kernel
theorem dX5_findDigest_416 : decode cX5_findDigest 416 = .ok (.iload 6, 2) := by decide +kernel
theorem dX5_findDigest_418 : decode cX5_findDigest 418 = .ok (.bipush 13, 2) := by decide +kernel
theorem dX5_findDigest_420 : decode cX5_findDigest 420 = .ok (.invokestatic 113, 3) := by decide +kernel
theorem dX5_findDigest_423 : decode cX5_findDigest 423 = .ok (.ixor, 1) := by decide +kernel
theorem dX5_findDigest_424 : decode cX5_findDigest 424 = .ok (.iload 6, 2) := by decide +kernel
theorem dX5_findDigest_426 : decode cX5_findDigest 426 = .ok (.bipush 22, 2) := by decide +kernel
theorem dX5_findDigest_428 : decode cX5_findDigest 428 = .ok (.invokestatic 113, 3) := by decide +kernel
theorem dX5_findDigest_431 : decode cX5_findDigest 431 = .ok (.ixor, 1) := by decide +kernel
theorem dX5_findDigest_432 : decode cX5_findDigest 432 = .ok (.iload 8, 2) := by decide +kernel
theorem dX5_findDigest_434 : decode cX5_findDigest 434 = .ok (.iadd, 1) := by decide +kernel
theorem dX5_findDigest_435 : decode cX5_findDigest 435 = .ok (.istore 10, 2) := by decide +kernel
theorem dX5_findDigest_437 : decode cX5_findDigest 437 = .ok (.aload_n 0, 1) := by decide +kernel
theorem dX5_findDigest_438 : decode cX5_findDigest 438 = .ok (.getfield 92, 3) := by decide +kernel
theorem dX5_findDigest_441 : decode cX5_findDigest 441 = .ok (.iconst 3, 1) := by decide +kernel
theorem dX5_findDigest_442 : decode cX5_findDigest 442 = .ok (.iload 4, 2) := by decide +kernel
theorem dX5_findDigest_444 : decode cX5_findDigest 444 = .ok (.isub, 1) := by decide +kernel
theorem dX5_findDigest_445 : decode cX5_findDigest 445 = .ok (.bipush 7, 2) := by decide +kernel
theorem dX5_findDigest_447 : decode cX5_findDigest 447 = .ok (.iand, 1) := by decide +kernel
theorem dX5_findDigest_448 : decode cX5_findDigest 448 = .ok (.aload_n 0, 1) := by decide +kernel
theorem dX5_findDigest_449 : decode cX5_findDigest 449 = .ok (.iconst 3, 1) := by decide +kernel
theorem dX5_findDigest_450 : decode cX5_findDigest 450 = .ok (.iload 4, 2) := by decide +kernel
theorem dX5_findDigest_452 : decode cX5_findDigest 452 = .ok (.invokevirtual 117, 3) := by decide +kernel
theorem dX5_findDigest_455 : decode cX5_findDigest 455 = .ok (.iload 9, 2) := by decide +kernel
theorem dX5_findDigest_457 : decode cX5_findDigest 457 = .ok (.iadd, 1) := by decide +kernel
theorem dX5_findDigest_458 : decode cX5_findDigest 458 = .ok (.iastore, 1) := by decide +kernel
theorem dX5_findDigest_459 : decode cX5_findDigest 459 = .ok (.aload_n 0, 1) := by decide +kernel
theorem dX5_findDigest_460 : decode cX5_findDigest 460 = .ok (.getfield 92, 3) := by decide +kernel
theorem dX5_findDigest_463 : decode cX5_findDigest 463 = .ok (.bipush 7, 2) := by decide +kernel
theorem dX5_findDigest_465 : decode cX5_findDigest 465 = .ok (.iload 4, 2) := by decide +kernel
theorem dX5_findDigest_467 : decode cX5_findDigest 467 = .ok (.isub, 1) := by decide +kernel
theorem dX5_findDigest_468 : decode cX5_findDigest 468 = .ok (.bipush 7, 2) := by decide +kernel
theorem dX5_findDigest_470 : decode cX5_findDigest 470 = .ok (.iand, 1) := by decide +kernel
theorem dX5_findDigest_471 : decode cX5_findDigest 471 = .ok (.iload 9, 2) := by decide +kernel
theorem dX5_findDigest_473 : decode cX5_findDigest 473 = .ok (.iload 10, 2) := by decide +kernel
theorem dX5_findDigest_475 : decode cX5_findDigest 475 = .ok (.iadd, 1) := by decide +kernel
theorem dX5_findDigest_476 : decode cX5_findDigest 476 = .ok (.iastore, 1) := by decide +kernel
theorem dX5_findDigest_477 : decode cX5_findDigest 477 = .ok (.iinc 4 1, 3) := by decide +kernel
theorem dX5_findDigest_480 : decode cX5_findDigest 480 = .ok (.goto (-213), 3) := by decide +kernel
theorem dX5_findDigest_483 : decode cX5_findDigest 483 = .ok (.iconst 0, 1) := by decide +kernel
theorem dX5_findDigest_484 : decode cX5_findDigest 484 = .ok (.istore 4, 2) := by decide +kernel
theorem dX5_findDigest_486 : decode cX5_findDigest 486 = .ok (.iload 4, 2) := by decide +kernel
theorem dX5_findDigest_488 : decode cX5_findDigest 488 = .ok (.bipush 8, 2) := by decide +kernel
theorem dX5_findDigest_490 : decode cX5_findDigest 490 = .ok (.if_icmp .ge 31, 3) := by decide +kernel
theorem dX5_findDigest_493 : decode cX5_findDigest 493 = .ok (.aload_n 0, 1) := by decide +kernel
theorem dX5_findDigest_494 : decode cX5_findDigest 494 = .ok (.getfield 86, 3) := by decide +kernel
theorem dX5_findDigest_497 : decode cX5_findDigest 497 = .ok (.iload 4, 2) := by decide +kernel
theorem dX5_findDigest_499 : decode cX5_findDigest 499 = .ok (.aload_n 0, 1) := by decide +kernel
theorem dX5_findDigest_500 : decode cX5_findDigest 500 = .ok (.getfield 86, 3) := by decide +kernel
theorem dX5_findDigest_503 : decode cX5_findDigest 503 = .ok (.iload 4, 2) := by decide +kernel
theorem dX5_findDigest_505 : decode cX5_findDigest 505 = .ok (.iaload, 1) := by decide +kernel
theorem dX5_findDigest_506 : decode cX5_findDigest 506 = .ok (.aload_n 0, 1) := by decide +kernel
theorem dX5_findDigest_507 : decode cX5_findDigest 507 = .ok (.getfield 92, 3) := by decide +kernel
theorem dX5_findDigest_510 : decode cX5_findDigest 510 = .ok (.iload 4, 2) := by decide +kernel
theorem dX5_findDigest_512 : decode cX5_findDigest 512 = .ok (.iaload, 1) := by decide +kernel
theorem dX5_findDigest_513 : decode cX5_findDigest 513 = .ok (.iadd, 1) := by decide +kernel
theorem dX5_findDigest_514 : decode cX5_findDigest 514 = .ok (.iastore, 1) := by decide +kernel
theorem dX5_findDigest_515 : decode cX5_findDigest 515 = .ok (.iinc 4 1, 3) := by decide +kernel
theorem dX5_findDigest_518 : decode cX5_findDigest 518 = .ok (.goto (-32), 3) := by decide +kernel
theorem dX5_findDigest_521 : decode cX5_findDigest 521 = .ok (.iinc 3 64, 3) := by decide +kernel
theorem dX5_findDigest_524 : decode cX5_findDigest 524 = .ok (.goto (-472), 3) := by decide +kernel
theorem dX5_findDigest_527 : decode cX5_findDigest 527 = .ok (.iconst 0, 1) := by decide +kernel
theorem dX5_findDigest_528 : decode cX5_findDigest 528 = .ok (.istore_n 3, 1) := by decide +kernel
theorem dX5_findDigest_529 : decode cX5_findDigest 529 = .ok (.iload_n 3, 1) := by decide +kernel
theorem dX5_findDigest_530 : decode cX5_findDigest 530 = .ok (.bipush 32, 2) := by decide +kernel
theorem dX5_findDigest_532 : decode cX5_findDigest 532 = .ok (.if_icmp .ge 36, 3) := by decide +kernel
theorem dX5_findDigest_535 : decode cX5_findDigest 535 = .ok (.aload_n 0, 1) := by decide +kernel
theorem dX5_findDigest_536 : decode cX5_findDigest 536 = .ok (.getfield 71, 3) := by decide +kernel
theorem dX5_findDigest_539 : decode cX5_findDigest 539 = .ok (.iload_n 3, 1) := by decide +kernel
theorem dX5_findDigest_540 : decode cX5_findDigest 540 = .ok (.aload_n 0, 1) := by decide +kernel
theorem dX5_findDigest_541 : decode cX5_findDigest 541 = .ok (.getfield 86, 3) := by decide +kernel
theorem dX5_findDigest_544 : decode cX5_findDigest 544 = .ok (.iload_n 3, 1) := by decide +kernel
theorem dX5_findDigest_545 : decode cX5_findDigest 545 = .ok (.iconst 4, 1) := by decide +kernel
theorem dX5_findDigest_546 : decode cX5_findDigest 546 = .ok (.idiv, 1) := by decide +kernel
theorem dX5_findDigest_547 : decode cX5_findDigest 547 = .ok (.iaload, 1) := by decide +kernel
theorem dX5_findDigest_548 : decode cX5_findDigest 548 = .ok (.bipush 8, 2) := by decide +kernel
theorem dX5_findDigest_550 : decode cX5_findDigest 550 = .ok (.iconst 3, 1) := by decide +kernel
theorem dX5_findDigest_551 : decode cX5_findDigest 551 = .ok (.iload_n 3, 1) := by decide +kernel
theorem dX5_findDigest_552 : decode cX5_findDigest 552 = .ok (.iconst 4, 1) := by decide +kernel
theorem dX5_findDigest_553 : decode cX5_findDigest 553 = .ok (.irem, 1) := by decide +kernel
theorem dX5_findDigest_554 : decode cX5_findDigest 554 = .ok (.isub, 1) := by decide +kernel
theorem dX5_findDigest_555 : decode cX5_findDigest 555 = .ok (.imul, 1) := by decide +kernel
theorem dX5_findDigest_556 : decode cX5_findDigest 556 = .ok (.ishr, 1) := by decide +kernel
theorem dX5_findDigest_557 : decode cX5_findDigest 557 = .ok (.sipush 255, 3) := by decide +kernel
theorem dX5_findDigest_560 : decode cX5_findDigest 560 = .ok (.iand, 1) := by decide +kernel
theorem dX5_findDigest_561 : decode cX5_findDigest 561 = .ok (.iastore, 1) := by decide +kernel
theorem dX5_findDigest_562 : decode cX5_findDigest 562 = .ok (.iinc 3 1, 3) := by decide +kernel
theorem dX5_findDigest_565 : decode cX5_findDigest 565 = .ok (.goto (-36), 3) := by decide +kernel
theorem dX5_findDigest_568 : decode cX5_findDigest 568 = .ok (.aload_n 0, 1) := by decide +kernel
theorem dX5_findDigest_569 : decode cX5_findDigest 569 = .ok (.bipush 32, 2) := by decide +kernel
theorem dX5_findDigest_571 : decode cX5_findDigest 571 = .ok (.putfield 120, 3) := by decide +kernel
theorem dX5_findDigest_574 : decode cX5_findDigest 574 = .ok (.return_, 1) := by decide +kernel
theorem dX5_at_0 : decode cX5_at 0 = .ok (.aload_n 0, 1) := by decide +kernel
theorem dX5_at_1 : decode cX5_at 1 = .ok (.getfield 92, 3) := by decide +kernel
theorem dX5_at_4 : decode cX5_at 4 = .ok (.iload_n 1, 1) := by decide +kernel
theorem dX5_at_5 : decode cX5_at 5 = .ok (.iload_n 2, 1) := by decide +kernel
theorem dX5_at_6 : decode cX5_at 6 = .ok (.isub, 1) := by decide +kernel
theorem dX5_at_7 : decode cX5_at 7 = .ok (.bipush 7, 2) := by decide +kernel
theorem dX5_at_9 : decode cX5_at 9 = .ok (.iand, 1) := by decide +kernel
