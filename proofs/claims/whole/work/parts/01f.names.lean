set_option maxRecDepth 20000 in
theorem gX12_write_X12_placed : GoodIn wsX12_write (wsV RX12 148 RX12 yX12_placed wsX12_placed) := goodIn_app (goodIn_of _ (by decide +kernel)) ggX12_write_X12_placed
set_option maxRecDepth 20000 in
theorem ggX12_write_X12_cut : GoodIn wsX12_write wsX12_cut := goodIn_r _ [17] (by decide +kernel) (by decide +kernel)
set_option maxRecDepth 20000 in
theorem gX12_write_X12_cut : GoodIn wsX12_write (va_wsS RX12 152 yX12_cut wsX12_cut) := goodIn_app (goodIn_of _ (by decide +kernel)) ggX12_write_X12_cut
theorem dX12_write_0 : decode cX12_write 0 = .ok (.aload_n 0, 1) := by decide +kernel
theorem dX12_write_1 : decode cX12_write 1 = .ok (.iconst 0, 1) := by decide +kernel
theorem dX12_write_2 : decode cX12_write 2 = .ok (.putfield 134, 3) := by decide +kernel
theorem dX12_write_5 : decode cX12_write 5 = .ok (.aload_n 0, 1) := by decide +kernel
theorem dX12_write_6 : decode cX12_write 6 = .ok (.aload_n 0, 1) := by decide +kernel
theorem dX12_write_7 : decode cX12_write 7 = .ok (.iload_n 1, 1) := by decide +kernel
theorem dX12_write_8 : decode cX12_write 8 = .ok (.iload_n 2, 1) := by decide +kernel
theorem dX12_write_9 : decode cX12_write 9 = .ok (.invokevirtual 148, 3) := by decide +kernel
theorem dX12_write_12 : decode cX12_write 12 = .ok (.putfield 137, 3) := by decide +kernel
theorem dX12_write_15 : decode cX12_write 15 = .ok (.aload_n 0, 1) := by decide +kernel
theorem dX12_write_16 : decode cX12_write 16 = .ok (.getfield 137, 3) := by decide +kernel
theorem dX12_write_19 : decode cX12_write 19 = .ok (.ifCond .le 5, 3) := by decide +kernel
theorem dX12_write_22 : decode cX12_write 22 = .ok (.iconst 0, 1) := by decide +kernel
theorem dX12_write_23 : decode cX12_write 23 = .ok (.ireturn, 1) := by decide +kernel
theorem dX12_write_24 : decode cX12_write 24 = .ok (.aload_n 0, 1) := by decide +kernel
theorem dX12_write_25 : decode cX12_write 25 = .ok (.getfield 20, 3) := by decide +kernel
theorem dX12_write_28 : decode cX12_write 28 = .ok (.bipush 40, 2) := by decide +kernel
theorem dX12_write_30 : decode cX12_write 30 = .ok (.iload_n 1, 1) := by decide +kernel
theorem dX12_write_31 : decode cX12_write 31 = .ok (.imul, 1) := by decide +kernel
theorem dX12_write_32 : decode cX12_write 32 = .ok (.iload_n 2, 1) := by decide +kernel
theorem dX12_write_33 : decode cX12_write 33 = .ok (.iadd, 1) := by decide +kernel
theorem dX12_write_34 : decode cX12_write 34 = .ok (.aload_n 0, 1) := by decide +kernel
theorem dX12_write_35 : decode cX12_write 35 = .ok (.getfield 13, 3) := by decide +kernel
theorem dX12_write_38 : decode cX12_write 38 = .ok (.iload_n 1, 1) := by decide +kernel
theorem dX12_write_39 : decode cX12_write 39 = .ok (.iaload, 1) := by decide +kernel
theorem dX12_write_40 : decode cX12_write 40 = .ok (.lload_n 3, 1) := by decide +kernel
theorem dX12_write_41 : decode cX12_write 41 = .ok (.invokestatic 152, 3) := by decide +kernel
theorem dX12_write_44 : decode cX12_write 44 = .ok (.lastore, 1) := by decide +kernel
theorem dX12_write_45 : decode cX12_write 45 = .ok (.iconst 1, 1) := by decide +kernel
theorem dX12_write_46 : decode cX12_write 46 = .ok (.ireturn, 1) := by decide +kernel
set_option maxRecDepth 20000 in
theorem ggX12_read_X12_placed : GoodIn wsX12_read wsX12_placed := goodIn_r _ [9, 10, 11, 12, 13, 8, 14, 15, 16, 17, 18, 19, 20, 21, 22, 23, 24, 25, 26, 27, 28, 29, 30, 31, 32, 33, 34, 35, 36, 37, 38, 39, 40, 41, 42, 43, 44, 45, 46, 47, 48, 49, 50, 51, 52, 53, 54, 55, 56, 57, 58, 59, 60, 61, 62, 63, 64, 65, 66, 67, 68] (by decide +kernel) (by decide +kernel)
set_option maxRecDepth 20000 in
theorem gX12_read_X12_placed : GoodIn wsX12_read (wsV RX12 148 RX12 yX12_placed wsX12_placed) := goodIn_app (goodIn_of _ (by decide +kernel)) ggX12_read_X12_placed
theorem dX12_read_0 : decode cX12_read 0 = .ok (.aload_n 0, 1) := by decide +kernel
theorem dX12_read_1 : decode cX12_read 1 = .ok (.iconst 0, 1) := by decide +kernel
theorem dX12_read_2 : decode cX12_read 2 = .ok (.putfield 134, 3) := by decide +kernel
theorem dX12_read_5 : decode cX12_read 5 = .ok (.aload_n 0, 1) := by decide +kernel
theorem dX12_read_6 : decode cX12_read 6 = .ok (.aload_n 0, 1) := by decide +kernel
theorem dX12_read_7 : decode cX12_read 7 = .ok (.iload_n 1, 1) := by decide +kernel
theorem dX12_read_8 : decode cX12_read 8 = .ok (.iload_n 2, 1) := by decide +kernel
theorem dX12_read_9 : decode cX12_read 9 = .ok (.invokevirtual 148, 3) := by decide +kernel
theorem dX12_read_12 : decode cX12_read 12 = .ok (.putfield 137, 3) := by decide +kernel
theorem dX12_read_15 : decode cX12_read 15 = .ok (.aload_n 0, 1) := by decide +kernel
theorem dX12_read_16 : decode cX12_read 16 = .ok (.getfield 137, 3) := by decide +kernel
theorem dX12_read_19 : decode cX12_read 19 = .ok (.ifCond .le 9, 3) := by decide +kernel
theorem dX12_read_22 : decode cX12_read 22 = .ok (.ldc2_w 156, 3) := by decide +kernel
theorem dX12_read_25 : decode cX12_read 25 = .ok (.goto 14, 3) := by decide +kernel
theorem dX12_read_28 : decode cX12_read 28 = .ok (.aload_n 0, 1) := by decide +kernel
theorem dX12_read_29 : decode cX12_read 29 = .ok (.getfield 20, 3) := by decide +kernel
theorem dX12_read_32 : decode cX12_read 32 = .ok (.bipush 40, 2) := by decide +kernel
theorem dX12_read_34 : decode cX12_read 34 = .ok (.iload_n 1, 1) := by decide +kernel
theorem dX12_read_35 : decode cX12_read 35 = .ok (.imul, 1) := by decide +kernel
theorem dX12_read_36 : decode cX12_read 36 = .ok (.iload_n 2, 1) := by decide +kernel
theorem dX12_read_37 : decode cX12_read 37 = .ok (.iadd, 1) := by decide +kernel
theorem dX12_read_38 : decode cX12_read 38 = .ok (.laload, 1) := by decide +kernel
theorem dX12_read_39 : decode cX12_read 39 = .ok (.lreturn, 1) := by decide +kernel
set_option maxRecDepth 20000 in
theorem ggX12_pour_X12_no : GoodIn wsX12_pour wsX12_no := goodIn_r _ [10, 2, 11, 12, 13, 14, 15, 16, 17, 18, 19, 20, 21, 22, 23, 24, 25, 26, 27, 28, 29, 30, 31, 32, 33, 34, 35, 36, 37, 38, 39, 40, 41, 42, 43, 44, 45, 46, 47, 48, 49, 50, 51, 52, 53, 54, 55, 56, 57, 58, 59, 60, 61, 62, 63, 64] (by decide +kernel) (by decide +kernel)
set_option maxRecDepth 20000 in
theorem gX12_pour_X12_no : GoodIn wsX12_pour (wsV RX12 140 RX12 yX12_no wsX12_no) := goodIn_app (goodIn_of _ (by decide +kernel)) ggX12_pour_X12_no
theorem dX12_pour_0 : decode cX12_pour 0 = .ok (.aload_n 0, 1) := by decide +kernel
theorem dX12_pour_1 : decode cX12_pour 1 = .ok (.iconst 0, 1) := by decide +kernel
theorem dX12_pour_2 : decode cX12_pour 2 = .ok (.putfield 134, 3) := by decide +kernel
theorem dX12_pour_5 : decode cX12_pour 5 = .ok (.aload_n 0, 1) := by decide +kernel
theorem dX12_pour_6 : decode cX12_pour 6 = .ok (.iconst 0, 1) := by decide +kernel
theorem dX12_pour_7 : decode cX12_pour 7 = .ok (.putfield 137, 3) := by decide +kernel
theorem dX12_pour_10 : decode cX12_pour 10 = .ok (.iload_n 1, 1) := by decide +kernel
theorem dX12_pour_11 : decode cX12_pour 11 = .ok (.ifCond .lt 17, 3) := by decide +kernel
theorem dX12_pour_14 : decode cX12_pour 14 = .ok (.iload_n 1, 1) := by decide +kernel
theorem dX12_pour_15 : decode cX12_pour 15 = .ok (.iconst 4, 1) := by decide +kernel
theorem dX12_pour_16 : decode cX12_pour 16 = .ok (.if_icmp .ge 12, 3) := by decide +kernel
theorem dX12_pour_19 : decode cX12_pour 19 = .ok (.iload_n 3, 1) := by decide +kernel
theorem dX12_pour_20 : decode cX12_pour 20 = .ok (.ifCond .lt 8, 3) := by decide +kernel
theorem dX12_pour_23 : decode cX12_pour 23 = .ok (.iload_n 3, 1) := by decide +kernel
theorem dX12_pour_24 : decode cX12_pour 24 = .ok (.iconst 4, 1) := by decide +kernel
theorem dX12_pour_25 : decode cX12_pour 25 = .ok (.if_icmp .lt 9, 3) := by decide +kernel
theorem dX12_pour_28 : decode cX12_pour 28 = .ok (.aload_n 0, 1) := by decide +kernel
theorem dX12_pour_29 : decode cX12_pour 29 = .ok (.iconst 1, 1) := by decide +kernel
theorem dX12_pour_30 : decode cX12_pour 30 = .ok (.invokevirtual 140, 3) := by decide +kernel
theorem dX12_pour_33 : decode cX12_pour 33 = .ok (.ireturn, 1) := by decide +kernel
theorem dX12_pour_34 : decode cX12_pour 34 = .ok (.aload_n 0, 1) := by decide +kernel
theorem dX12_pour_35 : decode cX12_pour 35 = .ok (.getfield 17, 3) := by decide +kernel
theorem dX12_pour_38 : decode cX12_pour 38 = .ok (.iload_n 1, 1) := by decide +kernel
theorem dX12_pour_39 : decode cX12_pour 39 = .ok (.iaload, 1) := by decide +kernel
theorem dX12_pour_40 : decode cX12_pour 40 = .ok (.ifCond .lt 12, 3) := by decide +kernel
theorem dX12_pour_43 : decode cX12_pour 43 = .ok (.aload_n 0, 1) := by decide +kernel
theorem dX12_pour_44 : decode cX12_pour 44 = .ok (.getfield 17, 3) := by decide +kernel
theorem dX12_pour_47 : decode cX12_pour 47 = .ok (.iload_n 3, 1) := by decide +kernel
theorem dX12_pour_48 : decode cX12_pour 48 = .ok (.iaload, 1) := by decide +kernel
theorem dX12_pour_49 : decode cX12_pour 49 = .ok (.ifCond .ge 9, 3) := by decide +kernel
theorem dX12_pour_52 : decode cX12_pour 52 = .ok (.aload_n 0, 1) := by decide +kernel
theorem dX12_pour_53 : decode cX12_pour 53 = .ok (.iconst 4, 1) := by decide +kernel
theorem dX12_pour_54 : decode cX12_pour 54 = .ok (.invokevirtual 140, 3) := by decide +kernel
theorem dX12_pour_57 : decode cX12_pour 57 = .ok (.ireturn, 1) := by decide +kernel
theorem dX12_pour_58 : decode cX12_pour 58 = .ok (.aload_n 0, 1) := by decide +kernel
theorem dX12_pour_59 : decode cX12_pour 59 = .ok (.getfield 13, 3) := by decide +kernel
theorem dX12_pour_62 : decode cX12_pour 62 = .ok (.iload_n 1, 1) := by decide +kernel
theorem dX12_pour_63 : decode cX12_pour 63 = .ok (.iaload, 1) := by decide +kernel
theorem dX12_pour_64 : decode cX12_pour 64 = .ok (.aload_n 0, 1) := by decide +kernel
theorem dX12_pour_65 : decode cX12_pour 65 = .ok (.getfield 13, 3) := by decide +kernel
theorem dX12_pour_68 : decode cX12_pour 68 = .ok (.iload_n 3, 1) := by decide +kernel
theorem dX12_pour_69 : decode cX12_pour 69 = .ok (.iaload, 1) := by decide +kernel
theorem dX12_pour_70 : decode cX12_pour 70 = .ok (.if_icmp .eq 10, 3) := by decide +kernel
theorem dX12_pour_73 : decode cX12_pour 73 = .ok (.aload_n 0, 1) := by decide +kernel
theorem dX12_pour_74 : decode cX12_pour 74 = .ok (.bipush 11, 2) := by decide +kernel
theorem dX12_pour_76 : decode cX12_pour 76 = .ok (.invokevirtual 140, 3) := by decide +kernel
theorem dX12_pour_79 : decode cX12_pour 79 = .ok (.ireturn, 1) := by decide +kernel
theorem dX12_pour_80 : decode cX12_pour 80 = .ok (.iload 5, 2) := by decide +kernel
theorem dX12_pour_82 : decode cX12_pour 82 = .ok (.ifCond .ge 10, 3) := by decide +kernel
theorem dX12_pour_85 : decode cX12_pour 85 = .ok (.aload_n 0, 1) := by decide +kernel
theorem dX12_pour_86 : decode cX12_pour 86 = .ok (.bipush 6, 2) := by decide +kernel
theorem dX12_pour_88 : decode cX12_pour 88 = .ok (.invokevirtual 140, 3) := by decide +kernel
theorem dX12_pour_91 : decode cX12_pour 91 = .ok (.ireturn, 1) := by decide +kernel
theorem dX12_pour_92 : decode cX12_pour 92 = .ok (.iload_n 2, 1) := by decide +kernel
theorem dX12_pour_93 : decode cX12_pour 93 = .ok (.ifCond .lt 43, 3) := by decide +kernel
theorem dX12_pour_96 : decode cX12_pour 96 = .ok (.iload 4, 2) := by decide +kernel
theorem dX12_pour_98 : decode cX12_pour 98 = .ok (.ifCond .lt 38, 3) := by decide +kernel
theorem dX12_pour_101 : decode cX12_pour 101 = .ok (.iload_n 2, 1) := by decide +kernel
theorem dX12_pour_102 : decode cX12_pour 102 = .ok (.i2l, 1) := by decide +kernel
theorem dX12_pour_103 : decode cX12_pour 103 = .ok (.iload 5, 2) := by decide +kernel
theorem dX12_pour_105 : decode cX12_pour 105 = .ok (.i2l, 1) := by decide +kernel
theorem dX12_pour_106 : decode cX12_pour 106 = .ok (.ladd, 1) := by decide +kernel
theorem dX12_pour_107 : decode cX12_pour 107 = .ok (.aload_n 0, 1) := by decide +kernel
theorem dX12_pour_108 : decode cX12_pour 108 = .ok (.getfield 17, 3) := by decide +kernel
theorem dX12_pour_111 : decode cX12_pour 111 = .ok (.iload_n 1, 1) := by decide +kernel
theorem dX12_pour_112 : decode cX12_pour 112 = .ok (.iaload, 1) := by decide +kernel
theorem dX12_pour_113 : decode cX12_pour 113 = .ok (.i2l, 1) := by decide +kernel
theorem dX12_pour_114 : decode cX12_pour 114 = .ok (.lcmp, 1) := by decide +kernel
theorem dX12_pour_115 : decode cX12_pour 115 = .ok (.ifCond .gt 21, 3) := by decide +kernel
theorem dX12_pour_118 : decode cX12_pour 118 = .ok (.iload 4, 2) := by decide +kernel
theorem dX12_pour_120 : decode cX12_pour 120 = .ok (.i2l, 1) := by decide +kernel
theorem dX12_pour_121 : decode cX12_pour 121 = .ok (.iload 5, 2) := by decide +kernel
theorem dX12_pour_123 : decode cX12_pour 123 = .ok (.i2l, 1) := by decide +kernel
theorem dX12_pour_124 : decode cX12_pour 124 = .ok (.ladd, 1) := by decide +kernel
theorem dX12_pour_125 : decode cX12_pour 125 = .ok (.aload_n 0, 1) := by decide +kernel
theorem dX12_pour_126 : decode cX12_pour 126 = .ok (.getfield 17, 3) := by decide +kernel
theorem dX12_pour_129 : decode cX12_pour 129 = .ok (.iload_n 3, 1) := by decide +kernel
theorem dX12_pour_130 : decode cX12_pour 130 = .ok (.iaload, 1) := by decide +kernel
theorem dX12_pour_131 : decode cX12_pour 131 = .ok (.i2l, 1) := by decide +kernel
theorem dX12_pour_132 : decode cX12_pour 132 = .ok (.lcmp, 1) := by decide +kernel
theorem dX12_pour_133 : decode cX12_pour 133 = .ok (.ifCond .le 9, 3) := by decide +kernel
theorem dX12_pour_136 : decode cX12_pour 136 = .ok (.aload_n 0, 1) := by decide +kernel
theorem dX12_pour_137 : decode cX12_pour 137 = .ok (.iconst 5, 1) := by decide +kernel
theorem dX12_pour_138 : decode cX12_pour 138 = .ok (.invokevirtual 140, 3) := by decide +kernel
theorem dX12_pour_141 : decode cX12_pour 141 = .ok (.ireturn, 1) := by decide +kernel
theorem dX12_pour_142 : decode cX12_pour 142 = .ok (.iload_n 2, 1) := by decide +kernel
theorem dX12_pour_143 : decode cX12_pour 143 = .ok (.iload 4, 2) := by decide +kernel
theorem dX12_pour_145 : decode cX12_pour 145 = .ok (.if_icmp .ge 7, 3) := by decide +kernel
theorem dX12_pour_148 : decode cX12_pour 148 = .ok (.iconst 1, 1) := by decide +kernel
theorem dX12_pour_149 : decode cX12_pour 149 = .ok (.goto 4, 3) := by decide +kernel
theorem dX12_pour_152 : decode cX12_pour 152 = .ok (.iconst 0, 1) := by decide +kernel
theorem dX12_pour_153 : decode cX12_pour 153 = .ok (.istore 6, 2) := by decide +kernel
theorem dX12_pour_155 : decode cX12_pour 155 = .ok (.iconst 0, 1) := by decide +kernel
theorem dX12_pour_156 : decode cX12_pour 156 = .ok (.istore 7, 2) := by decide +kernel
theorem dX12_pour_158 : decode cX12_pour 158 = .ok (.iload 7, 2) := by decide +kernel
theorem dX12_pour_160 : decode cX12_pour 160 = .ok (.iload 5, 2) := by decide +kernel
theorem dX12_pour_162 : decode cX12_pour 162 = .ok (.if_icmp .ge 57, 3) := by decide +kernel
theorem dX12_pour_165 : decode cX12_pour 165 = .ok (.iload 6, 2) := by decide +kernel
theorem dX12_pour_167 : decode cX12_pour 167 = .ok (.ifCond .eq 13, 3) := by decide +kernel
theorem dX12_pour_170 : decode cX12_pour 170 = .ok (.iload 5, 2) := by decide +kernel
theorem dX12_pour_172 : decode cX12_pour 172 = .ok (.iconst 1, 1) := by decide +kernel
theorem dX12_pour_173 : decode cX12_pour 173 = .ok (.isub, 1) := by decide +kernel
theorem dX12_pour_174 : decode cX12_pour 174 = .ok (.iload 7, 2) := by decide +kernel
theorem dX12_pour_176 : decode cX12_pour 176 = .ok (.isub, 1) := by decide +kernel
theorem dX12_pour_177 : decode cX12_pour 177 = .ok (.goto 5, 3) := by decide +kernel
theorem dX12_pour_180 : decode cX12_pour 180 = .ok (.iload 7, 2) := by decide +kernel
theorem dX12_pour_182 : decode cX12_pour 182 = .ok (.istore 8, 2) := by decide +kernel
theorem dX12_pour_184 : decode cX12_pour 184 = .ok (.aload_n 0, 1) := by decide +kernel
theorem dX12_pour_185 : decode cX12_pour 185 = .ok (.getfield 20, 3) := by decide +kernel
theorem dX12_pour_188 : decode cX12_pour 188 = .ok (.bipush 40, 2) := by decide +kernel
theorem dX12_pour_190 : decode cX12_pour 190 = .ok (.iload_n 3, 1) := by decide +kernel
theorem dX12_pour_191 : decode cX12_pour 191 = .ok (.imul, 1) := by decide +kernel
theorem dX12_pour_192 : decode cX12_pour 192 = .ok (.iload 4, 2) := by decide +kernel
theorem dX12_pour_194 : decode cX12_pour 194 = .ok (.iadd, 1) := by decide +kernel
theorem dX12_pour_195 : decode cX12_pour 195 = .ok (.iload 8, 2) := by decide +kernel
theorem dX12_pour_197 : decode cX12_pour 197 = .ok (.iadd, 1) := by decide +kernel
theorem dX12_pour_198 : decode cX12_pour 198 = .ok (.aload_n 0, 1) := by decide +kernel
theorem dX12_pour_199 : decode cX12_pour 199 = .ok (.getfield 20, 3) := by decide +kernel
theorem dX12_pour_202 : decode cX12_pour 202 = .ok (.bipush 40, 2) := by decide +kernel
theorem dX12_pour_204 : decode cX12_pour 204 = .ok (.iload_n 1, 1) := by decide +kernel
theorem dX12_pour_205 : decode cX12_pour 205 = .ok (.imul, 1) := by decide +kernel
theorem dX12_pour_206 : decode cX12_pour 206 = .ok (.iload_n 2, 1) := by decide +kernel
theorem dX12_pour_207 : decode cX12_pour 207 = .ok (.iadd, 1) := by decide +kernel
theorem dX12_pour_208 : decode cX12_pour 208 = .ok (.iload 8, 2) := by decide +kernel
theorem dX12_pour_210 : decode cX12_pour 210 = .ok (.iadd, 1) := by decide +kernel
theorem dX12_pour_211 : decode cX12_pour 211 = .ok (.laload, 1) := by decide +kernel
theorem dX12_pour_212 : decode cX12_pour 212 = .ok (.lastore, 1) := by decide +kernel
theorem dX12_pour_213 : decode cX12_pour 213 = .ok (.iinc 7 1, 3) := by decide +kernel
theorem dX12_pour_216 : decode cX12_pour 216 = .ok (.goto (-58), 3) := by decide +kernel
theorem dX12_pour_219 : decode cX12_pour 219 = .ok (.iconst 1, 1) := by decide +kernel
theorem dX12_pour_220 : decode cX12_pour 220 = .ok (.ireturn, 1) := by decide +kernel
theorem dX12_isAgent_0 : decode cX12_isAgent 0 = .ok (.iload_n 1, 1) := by decide +kernel
theorem dX12_isAgent_1 : decode cX12_isAgent 1 = .ok (.ifCond .lt 15, 3) := by decide +kernel
theorem dX12_isAgent_4 : decode cX12_isAgent 4 = .ok (.iload_n 1, 1) := by decide +kernel
theorem dX12_isAgent_5 : decode cX12_isAgent 5 = .ok (.aload_n 0, 1) := by decide +kernel
theorem dX12_isAgent_6 : decode cX12_isAgent 6 = .ok (.getfield 158, 3) := by decide +kernel
theorem dX12_isAgent_9 : decode cX12_isAgent 9 = .ok (.if_icmp .ge 7, 3) := by decide +kernel
theorem dX12_isAgent_12 : decode cX12_isAgent 12 = .ok (.iconst 1, 1) := by decide +kernel
theorem dX12_isAgent_13 : decode cX12_isAgent 13 = .ok (.goto 4, 3) := by decide +kernel
theorem dX12_isAgent_16 : decode cX12_isAgent 16 = .ok (.iconst 0, 1) := by decide +kernel
theorem dX12_isAgent_17 : decode cX12_isAgent 17 = .ok (.ireturn, 1) := by decide +kernel
theorem dX12_isEditor_0 : decode cX12_isEditor 0 = .ok (.iload_n 1, 1) := by decide +kernel
theorem dX12_isEditor_1 : decode cX12_isEditor 1 = .ok (.ifCond .lt 15, 3) := by decide +kernel
theorem dX12_isEditor_4 : decode cX12_isEditor 4 = .ok (.iload_n 1, 1) := by decide +kernel
theorem dX12_isEditor_5 : decode cX12_isEditor 5 = .ok (.aload_n 0, 1) := by decide +kernel
theorem dX12_isEditor_6 : decode cX12_isEditor 6 = .ok (.getfield 161, 3) := by decide +kernel
theorem dX12_isEditor_9 : decode cX12_isEditor 9 = .ok (.if_icmp .ge 7, 3) := by decide +kernel
theorem dX12_isEditor_12 : decode cX12_isEditor 12 = .ok (.iconst 1, 1) := by decide +kernel
theorem dX12_isEditor_13 : decode cX12_isEditor 13 = .ok (.goto 4, 3) := by decide +kernel
theorem dX12_isEditor_16 : decode cX12_isEditor 16 = .ok (.iconst 0, 1) := by decide +kernel
theorem dX12_isEditor_17 : decode cX12_isEditor 17 = .ok (.ireturn, 1) := by decide +kernel
set_option maxRecDepth 20000 in
theorem ggX12_agent_X12_refuse : GoodIn wsX12_agent wsX12_refuse := goodIn_r _ [8, 2, 9, 10, 11, 12, 13, 14, 15, 16, 17, 18, 19, 20, 21, 22, 23, 24, 25, 26, 27, 28, 29, 30, 31, 32, 33, 34, 35, 36, 37, 38, 39, 40, 41, 42, 43, 44, 45, 46, 47, 48, 49, 50, 51, 52, 53, 54, 55, 56, 57, 58, 59, 60, 61, 62] (by decide +kernel) (by decide +kernel)
set_option maxRecDepth 20000 in
theorem gX12_agent_X12_refuse : GoodIn wsX12_agent (wsV RX12 164 RX12 yX12_refuse wsX12_refuse) := goodIn_app (goodIn_of _ (by decide +kernel)) ggX12_agent_X12_refuse
theorem dX12_agent_0 : decode cX12_agent 0 = .ok (.aload_n 0, 1) := by decide +kernel
theorem dX12_agent_1 : decode cX12_agent 1 = .ok (.iconst 0, 1) := by decide +kernel
theorem dX12_agent_2 : decode cX12_agent 2 = .ok (.putfield 134, 3) := by decide +kernel
theorem dX12_agent_5 : decode cX12_agent 5 = .ok (.aload_n 0, 1) := by decide +kernel
theorem dX12_agent_6 : decode cX12_agent 6 = .ok (.iconst 0, 1) := by decide +kernel
theorem dX12_agent_7 : decode cX12_agent 7 = .ok (.putfield 137, 3) := by decide +kernel
theorem dX12_agent_10 : decode cX12_agent 10 = .ok (.aload_n 0, 1) := by decide +kernel
theorem dX12_agent_11 : decode cX12_agent 11 = .ok (.getfield 158, 3) := by decide +kernel
theorem dX12_agent_14 : decode cX12_agent 14 = .ok (.bipush 8, 2) := by decide +kernel
theorem dX12_agent_16 : decode cX12_agent 16 = .ok (.if_icmp .ne 10, 3) := by decide +kernel
theorem dX12_agent_19 : decode cX12_agent 19 = .ok (.aload_n 0, 1) := by decide +kernel
theorem dX12_agent_20 : decode cX12_agent 20 = .ok (.bipush 7, 2) := by decide +kernel
theorem dX12_agent_22 : decode cX12_agent 22 = .ok (.invokevirtual 164, 3) := by decide +kernel
theorem dX12_agent_25 : decode cX12_agent 25 = .ok (.ireturn, 1) := by decide +kernel
theorem dX12_agent_26 : decode cX12_agent 26 = .ok (.aload_n 0, 1) := by decide +kernel
theorem dX12_agent_27 : decode cX12_agent 27 = .ok (.dup, 1) := by decide +kernel
theorem dX12_agent_28 : decode cX12_agent 28 = .ok (.getfield 158, 3) := by decide +kernel
theorem dX12_agent_31 : decode cX12_agent 31 = .ok (.iconst 1, 1) := by decide +kernel
theorem dX12_agent_32 : decode cX12_agent 32 = .ok (.iadd, 1) := by decide +kernel
theorem dX12_agent_33 : decode cX12_agent 33 = .ok (.putfield 158, 3) := by decide +kernel
theorem dX12_agent_36 : decode cX12_agent 36 = .ok (.aload_n 0, 1) := by decide +kernel
theorem dX12_agent_37 : decode cX12_agent 37 = .ok (.getfield 158, 3) := by decide +kernel
theorem dX12_agent_40 : decode cX12_agent 40 = .ok (.iconst 1, 1) := by decide +kernel
theorem dX12_agent_41 : decode cX12_agent 41 = .ok (.isub, 1) := by decide +kernel
theorem dX12_agent_42 : decode cX12_agent 42 = .ok (.ireturn, 1) := by decide +kernel
set_option maxRecDepth 20000 in
theorem ggX12_editor_X12_refuse : GoodIn wsX12_editor wsX12_refuse := goodIn_r _ [8, 2, 9, 10, 11, 12, 13, 14, 15, 16, 17, 18, 19, 20, 21, 22, 23, 24, 25, 26, 27, 28, 29, 30, 31, 32, 33, 34, 35, 36, 37, 38, 39, 40, 41, 42, 43, 44, 45, 46, 47, 48, 49, 50, 51, 52, 53, 54, 55, 56, 57, 58, 59, 60, 61, 62] (by decide +kernel) (by decide +kernel)
set_option maxRecDepth 20000 in
theorem gX12_editor_X12_refuse : GoodIn wsX12_editor (wsV RX12 164 RX12 yX12_refuse wsX12_refuse) := goodIn_app (goodIn_of _ (by decide +kernel)) ggX12_editor_X12_refuse
theorem dX12_editor_0 : decode cX12_editor 0 = .ok (.aload_n 0, 1) := by decide +kernel
theorem dX12_editor_1 : decode cX12_editor 1 = .ok (.iconst 0, 1) := by decide +kernel
theorem dX12_editor_2 : decode cX12_editor 2 = .ok (.putfield 134, 3) := by decide +kernel
theorem dX12_editor_5 : decode cX12_editor 5 = .ok (.aload_n 0, 1) := by decide +kernel
theorem dX12_editor_6 : decode cX12_editor 6 = .ok (.iconst 0, 1) := by decide +kernel
theorem dX12_editor_7 : decode cX12_editor 7 = .ok (.putfield 137, 3) := by decide +kernel
theorem dX12_editor_10 : decode cX12_editor 10 = .ok (.aload_n 0, 1) := by decide +kernel
theorem dX12_editor_11 : decode cX12_editor 11 = .ok (.getfield 161, 3) := by decide +kernel
theorem dX12_editor_14 : decode cX12_editor 14 = .ok (.bipush 10, 2) := by decide +kernel
theorem dX12_editor_16 : decode cX12_editor 16 = .ok (.if_icmp .ne 10, 3) := by decide +kernel
theorem dX12_editor_19 : decode cX12_editor 19 = .ok (.aload_n 0, 1) := by decide +kernel
theorem dX12_editor_20 : decode cX12_editor 20 = .ok (.bipush 7, 2) := by decide +kernel
theorem dX12_editor_22 : decode cX12_editor 22 = .ok (.invokevirtual 164, 3) := by decide +kernel
theorem dX12_editor_25 : decode cX12_editor 25 = .ok (.ireturn, 1) := by decide +kernel
theorem dX12_editor_26 : decode cX12_editor 26 = .ok (.aload_n 0, 1) := by decide +kernel
theorem dX12_editor_27 : decode cX12_editor 27 = .ok (.dup, 1) := by decide +kernel
theorem dX12_editor_28 : decode cX12_editor 28 = .ok (.getfield 161, 3) := by decide +kernel
theorem dX12_editor_31 : decode cX12_editor 31 = .ok (.iconst 1, 1) := by decide +kernel
theorem dX12_editor_32 : decode cX12_editor 32 = .ok (.iadd, 1) := by decide +kernel
theorem dX12_editor_33 : decode cX12_editor 33 = .ok (.putfield 161, 3) := by decide +kernel
theorem dX12_editor_36 : decode cX12_editor 36 = .ok (.aload_n 0, 1) := by decide +kernel
theorem dX12_editor_37 : decode cX12_editor 37 = .ok (.getfield 161, 3) := by decide +kernel
theorem dX12_editor_40 : decode cX12_editor 40 = .ok (.iconst 1, 1) := by decide +kernel
theorem dX12_editor_41 : decode cX12_editor 41 = .ok (.isub, 1) := by decide +kernel
theorem dX12_editor_42 : decode cX12_editor 42 = .ok (.ireturn, 1) := by decide +kernel
set_option maxRecDepth 20000 in
theorem ggX12_hours_X12_no : GoodIn wsX12_hours wsX12_no := goodIn_r _ [8, 2, 9, 10, 11, 12, 13, 14, 15, 16, 17, 18, 19, 20, 21, 22, 23, 24, 25, 26, 27, 28, 29, 30, 31, 32, 33, 34, 35, 36, 37, 38, 39, 40, 41, 42, 43, 44, 45, 46, 47, 48, 49, 50, 51, 52, 53, 54, 55, 56, 57, 58, 59, 60, 61, 62] (by decide +kernel) (by decide +kernel)
set_option maxRecDepth 20000 in
theorem gX12_hours_X12_no : GoodIn wsX12_hours (wsV RX12 140 RX12 yX12_no wsX12_no) := goodIn_app (goodIn_of _ (by decide +kernel)) ggX12_hours_X12_no
theorem dX12_hours_0 : decode cX12_hours 0 = .ok (.aload_n 0, 1) := by decide +kernel
theorem dX12_hours_1 : decode cX12_hours 1 = .ok (.iconst 0, 1) := by decide +kernel
theorem dX12_hours_2 : decode cX12_hours 2 = .ok (.putfield 134, 3) := by decide +kernel
theorem dX12_hours_5 : decode cX12_hours 5 = .ok (.aload_n 0, 1) := by decide +kernel
theorem dX12_hours_6 : decode cX12_hours 6 = .ok (.iconst 0, 1) := by decide +kernel
theorem dX12_hours_7 : decode cX12_hours 7 = .ok (.putfield 137, 3) := by decide +kernel
theorem dX12_hours_10 : decode cX12_hours 10 = .ok (.iload_n 1, 1) := by decide +kernel
theorem dX12_hours_11 : decode cX12_hours 11 = .ok (.iconst 1, 1) := by decide +kernel
theorem dX12_hours_12 : decode cX12_hours 12 = .ok (.if_icmp .lt 9, 3) := by decide +kernel
theorem dX12_hours_15 : decode cX12_hours 15 = .ok (.iload_n 1, 1) := by decide +kernel
theorem dX12_hours_16 : decode cX12_hours 16 = .ok (.bipush 8, 2) := by decide +kernel
theorem dX12_hours_18 : decode cX12_hours 18 = .ok (.if_icmp .le 9, 3) := by decide +kernel
theorem dX12_hours_21 : decode cX12_hours 21 = .ok (.aload_n 0, 1) := by decide +kernel
theorem dX12_hours_22 : decode cX12_hours 22 = .ok (.iconst 2, 1) := by decide +kernel
theorem dX12_hours_23 : decode cX12_hours 23 = .ok (.invokevirtual 140, 3) := by decide +kernel
theorem dX12_hours_26 : decode cX12_hours 26 = .ok (.ireturn, 1) := by decide +kernel
theorem dX12_hours_27 : decode cX12_hours 27 = .ok (.aload_n 0, 1) := by decide +kernel
theorem dX12_hours_28 : decode cX12_hours 28 = .ok (.iload_n 1, 1) := by decide +kernel
theorem dX12_hours_29 : decode cX12_hours 29 = .ok (.putfield 24, 3) := by decide +kernel
theorem dX12_hours_32 : decode cX12_hours 32 = .ok (.iconst 1, 1) := by decide +kernel
theorem dX12_hours_33 : decode cX12_hours 33 = .ok (.ireturn, 1) := by decide +kernel
set_option maxRecDepth 20000 in
theorem ggX12_worth_X12_isAgent : GoodIn wsX12_worth wsX12_isAgent := goodIn_r _ [8, 9, 19, 20, 21, 22, 23, 24, 25, 26, 27, 28, 29, 30, 31, 32, 33, 34, 35, 36, 37, 38, 39, 40, 41, 42, 43, 44, 45, 46, 47, 48, 49, 50, 51, 52, 53, 54, 55, 56, 57, 58, 59, 60, 61, 62, 63, 64, 65, 66, 67, 68, 69, 70, 71, 72] (by decide +kernel) (by decide +kernel)
set_option maxRecDepth 20000 in
theorem gX12_worth_X12_isAgent : GoodIn wsX12_worth (wsV RX12 167 RX12 yX12_isAgent wsX12_isAgent) := goodIn_app (goodIn_of _ (by decide +kernel)) ggX12_worth_X12_isAgent
set_option maxRecDepth 20000 in
theorem ggX12_worth_X12_isEditor : GoodIn wsX12_worth wsX12_isEditor := goodIn_r _ [13, 14, 19, 20, 21, 22, 23, 24, 25, 26, 27, 28, 29, 30, 31, 32, 33, 34, 35, 36, 37, 38, 39, 40, 41, 42, 43, 44, 45, 46, 47, 48, 49, 50, 51, 52, 53, 54, 55, 56, 57, 58, 59, 60, 61, 62, 63, 64, 65, 66, 67, 68, 69, 70, 71, 72] (by decide +kernel) (by decide +kernel)
set_option maxRecDepth 20000 in
theorem gX12_worth_X12_isEditor : GoodIn wsX12_worth (wsV RX12 170 RX12 yX12_isEditor wsX12_isEditor) := goodIn_app (goodIn_of _ (by decide +kernel)) ggX12_worth_X12_isEditor
set_option maxRecDepth 20000 in
theorem ggX12_worth_X12_no : GoodIn wsX12_worth wsX12_no := goodIn_r _ [18, 2, 19, 20, 21, 22, 23, 24, 25, 26, 27, 28, 29, 30, 31, 32, 33, 34, 35, 36, 37, 38, 39, 40, 41, 42, 43, 44, 45, 46, 47, 48, 49, 50, 51, 52, 53, 54, 55, 56, 57, 58, 59, 60, 61, 62, 63, 64, 65, 66, 67, 68, 69, 70, 71, 72] (by decide +kernel) (by decide +kernel)
set_option maxRecDepth 20000 in
theorem gX12_worth_X12_no : GoodIn wsX12_worth (wsV RX12 140 RX12 yX12_no wsX12_no) := goodIn_app (goodIn_of _ (by decide +kernel)) ggX12_worth_X12_no
theorem dX12_worth_0 : decode cX12_worth 0 = .ok (.aload_n 0, 1) := by decide +kernel
theorem dX12_worth_1 : decode cX12_worth 1 = .ok (.iconst 0, 1) := by decide +kernel
theorem dX12_worth_2 : decode cX12_worth 2 = .ok (.putfield 134, 3) := by decide +kernel
theorem dX12_worth_5 : decode cX12_worth 5 = .ok (.aload_n 0, 1) := by decide +kernel
theorem dX12_worth_6 : decode cX12_worth 6 = .ok (.iconst 0, 1) := by decide +kernel
theorem dX12_worth_7 : decode cX12_worth 7 = .ok (.putfield 137, 3) := by decide +kernel
theorem dX12_worth_10 : decode cX12_worth 10 = .ok (.aload_n 0, 1) := by decide +kernel
theorem dX12_worth_11 : decode cX12_worth 11 = .ok (.iload_n 1, 1) := by decide +kernel
theorem dX12_worth_12 : decode cX12_worth 12 = .ok (.invokevirtual 167, 3) := by decide +kernel
theorem dX12_worth_15 : decode cX12_worth 15 = .ok (.ifCond .eq 11, 3) := by decide +kernel
theorem dX12_worth_18 : decode cX12_worth 18 = .ok (.aload_n 0, 1) := by decide +kernel
theorem dX12_worth_19 : decode cX12_worth 19 = .ok (.iload_n 2, 1) := by decide +kernel
theorem dX12_worth_20 : decode cX12_worth 20 = .ok (.invokevirtual 170, 3) := by decide +kernel
theorem dX12_worth_23 : decode cX12_worth 23 = .ok (.ifCond .ne 9, 3) := by decide +kernel
theorem dX12_worth_26 : decode cX12_worth 26 = .ok (.aload_n 0, 1) := by decide +kernel
theorem dX12_worth_27 : decode cX12_worth 27 = .ok (.iconst 1, 1) := by decide +kernel
theorem dX12_worth_28 : decode cX12_worth 28 = .ok (.invokevirtual 140, 3) := by decide +kernel
theorem dX12_worth_31 : decode cX12_worth 31 = .ok (.ireturn, 1) := by decide +kernel
theorem dX12_worth_32 : decode cX12_worth 32 = .ok (.iload_n 3, 1) := by decide +kernel
theorem dX12_worth_33 : decode cX12_worth 33 = .ok (.ifCond .lt 9, 3) := by decide +kernel
theorem dX12_worth_36 : decode cX12_worth 36 = .ok (.iload_n 3, 1) := by decide +kernel
theorem dX12_worth_37 : decode cX12_worth 37 = .ok (.bipush 100, 2) := by decide +kernel
theorem dX12_worth_39 : decode cX12_worth 39 = .ok (.if_icmp .le 9, 3) := by decide +kernel
theorem dX12_worth_42 : decode cX12_worth 42 = .ok (.aload_n 0, 1) := by decide +kernel
theorem dX12_worth_43 : decode cX12_worth 43 = .ok (.iconst 2, 1) := by decide +kernel
theorem dX12_worth_44 : decode cX12_worth 44 = .ok (.invokevirtual 140, 3) := by decide +kernel
theorem dX12_worth_47 : decode cX12_worth 47 = .ok (.ireturn, 1) := by decide +kernel
theorem dX12_worth_48 : decode cX12_worth 48 = .ok (.aload_n 0, 1) := by decide +kernel
theorem dX12_worth_49 : decode cX12_worth 49 = .ok (.getfield 28, 3) := by decide +kernel
theorem dX12_worth_52 : decode cX12_worth 52 = .ok (.bipush 10, 2) := by decide +kernel
theorem dX12_worth_54 : decode cX12_worth 54 = .ok (.iload_n 1, 1) := by decide +kernel
theorem dX12_worth_55 : decode cX12_worth 55 = .ok (.imul, 1) := by decide +kernel
theorem dX12_worth_56 : decode cX12_worth 56 = .ok (.iload_n 2, 1) := by decide +kernel
theorem dX12_worth_57 : decode cX12_worth 57 = .ok (.iadd, 1) := by decide +kernel
theorem dX12_worth_58 : decode cX12_worth 58 = .ok (.iload_n 3, 1) := by decide +kernel
theorem dX12_worth_59 : decode cX12_worth 59 = .ok (.iastore, 1) := by decide +kernel
theorem dX12_worth_60 : decode cX12_worth 60 = .ok (.iconst 1, 1) := by decide +kernel
theorem dX12_worth_61 : decode cX12_worth 61 = .ok (.ireturn, 1) := by decide +kernel
theorem dX12_ways_0 : decode cX12_ways 0 = .ok (.iconst 0, 1) := by decide +kernel
theorem dX12_ways_1 : decode cX12_ways 1 = .ok (.istore_n 1, 1) := by decide +kernel
theorem dX12_ways_2 : decode cX12_ways 2 = .ok (.iload_n 1, 1) := by decide +kernel
theorem dX12_ways_3 : decode cX12_ways 3 = .ok (.bipush 18, 2) := by decide +kernel
theorem dX12_ways_5 : decode cX12_ways 5 = .ok (.if_icmp .ge 38, 3) := by decide +kernel
theorem dX12_ways_8 : decode cX12_ways 8 = .ok (.aload_n 0, 1) := by decide +kernel
theorem dX12_ways_9 : decode cX12_ways 9 = .ok (.getfield 44, 3) := by decide +kernel
theorem dX12_ways_12 : decode cX12_ways 12 = .ok (.iload_n 1, 1) := by decide +kernel
theorem dX12_ways_13 : decode cX12_ways 13 = .ok (.iload_n 1, 1) := by decide +kernel
theorem dX12_ways_14 : decode cX12_ways 14 = .ok (.aload_n 0, 1) := by decide +kernel
theorem dX12_ways_15 : decode cX12_ways 15 = .ok (.getfield 158, 3) := by decide +kernel
theorem dX12_ways_18 : decode cX12_ways 18 = .ok (.if_icmp .ge 16, 3) := by decide +kernel
theorem dX12_ways_21 : decode cX12_ways 21 = .ok (.aload_n 0, 1) := by decide +kernel
theorem dX12_ways_22 : decode cX12_ways 22 = .ok (.getfield 38, 3) := by decide +kernel
theorem dX12_ways_25 : decode cX12_ways 25 = .ok (.iload_n 1, 1) := by decide +kernel
theorem dX12_ways_26 : decode cX12_ways 26 = .ok (.iaload, 1) := by decide +kernel
theorem dX12_ways_27 : decode cX12_ways 27 = .ok (.ifCond .le 7, 3) := by decide +kernel
theorem dX12_ways_30 : decode cX12_ways 30 = .ok (.iconst 0, 1) := by decide +kernel
theorem dX12_ways_31 : decode cX12_ways 31 = .ok (.goto 5, 3) := by decide +kernel
theorem dX12_ways_34 : decode cX12_ways 34 = .ok (.ldc 173, 2) := by decide +kernel
theorem dX12_ways_36 : decode cX12_ways 36 = .ok (.iastore, 1) := by decide +kernel
theorem dX12_ways_37 : decode cX12_ways 37 = .ok (.iinc 1 1, 3) := by decide +kernel
theorem dX12_ways_40 : decode cX12_ways 40 = .ok (.goto (-38), 3) := by decide +kernel
theorem dX12_ways_43 : decode cX12_ways 43 = .ok (.iconst 1, 1) := by decide +kernel
theorem dX12_ways_44 : decode cX12_ways 44 = .ok (.istore_n 1, 1) := by decide +kernel
theorem dX12_ways_45 : decode cX12_ways 45 = .ok (.iload_n 1, 1) := by decide +kernel
theorem dX12_ways_46 : decode cX12_ways 46 = .ok (.ifCond .eq 225, 3) := by decide +kernel
theorem dX12_ways_49 : decode cX12_ways 49 = .ok (.iconst 0, 1) := by decide +kernel
theorem dX12_ways_50 : decode cX12_ways 50 = .ok (.istore_n 1, 1) := by decide +kernel
theorem dX12_ways_51 : decode cX12_ways 51 = .ok (.iconst 0, 1) := by decide +kernel
theorem dX12_ways_52 : decode cX12_ways 52 = .ok (.istore_n 2, 1) := by decide +kernel
theorem dX12_ways_53 : decode cX12_ways 53 = .ok (.iload_n 2, 1) := by decide +kernel
theorem dX12_ways_54 : decode cX12_ways 54 = .ok (.aload_n 0, 1) := by decide +kernel
theorem dX12_ways_55 : decode cX12_ways 55 = .ok (.getfield 158, 3) := by decide +kernel
theorem dX12_ways_58 : decode cX12_ways 58 = .ok (.if_icmp .ge 210, 3) := by decide +kernel
theorem dX12_ways_61 : decode cX12_ways 61 = .ok (.iconst 0, 1) := by decide +kernel
theorem dX12_ways_62 : decode cX12_ways 62 = .ok (.istore_n 3, 1) := by decide +kernel
theorem dX12_ways_63 : decode cX12_ways 63 = .ok (.iload_n 3, 1) := by decide +kernel
theorem dX12_ways_64 : decode cX12_ways 64 = .ok (.aload_n 0, 1) := by decide +kernel
theorem dX12_ways_65 : decode cX12_ways 65 = .ok (.getfield 161, 3) := by decide +kernel
theorem dX12_ways_68 : decode cX12_ways 68 = .ok (.if_icmp .ge 194, 3) := by decide +kernel
theorem dX12_ways_71 : decode cX12_ways 71 = .ok (.bipush 10, 2) := by decide +kernel
theorem dX12_ways_73 : decode cX12_ways 73 = .ok (.iload_n 2, 1) := by decide +kernel
theorem dX12_ways_74 : decode cX12_ways 74 = .ok (.imul, 1) := by decide +kernel
theorem dX12_ways_75 : decode cX12_ways 75 = .ok (.iload_n 3, 1) := by decide +kernel
theorem dX12_ways_76 : decode cX12_ways 76 = .ok (.iadd, 1) := by decide +kernel
theorem dX12_ways_77 : decode cX12_ways 77 = .ok (.istore 4, 2) := by decide +kernel
theorem dX12_ways_79 : decode cX12_ways 79 = .ok (.aload_n 0, 1) := by decide +kernel
theorem dX12_ways_80 : decode cX12_ways 80 = .ok (.getfield 31, 3) := by decide +kernel
theorem dX12_ways_83 : decode cX12_ways 83 = .ok (.iload 4, 2) := by decide +kernel
theorem dX12_ways_85 : decode cX12_ways 85 = .ok (.iaload, 1) := by decide +kernel
theorem dX12_ways_86 : decode cX12_ways 86 = .ok (.ifCond .eq 6, 3) := by decide +kernel
theorem dX12_ways_89 : decode cX12_ways 89 = .ok (.goto 167, 3) := by decide +kernel
theorem dX12_ways_92 : decode cX12_ways 92 = .ok (.aload_n 0, 1) := by decide +kernel
theorem dX12_ways_93 : decode cX12_ways 93 = .ok (.getfield 34, 3) := by decide +kernel
theorem dX12_ways_96 : decode cX12_ways 96 = .ok (.iload 4, 2) := by decide +kernel
theorem dX12_ways_98 : decode cX12_ways 98 = .ok (.baload, 1) := by decide +kernel
theorem dX12_ways_99 : decode cX12_ways 99 = .ok (.ifCond .ne 75, 3) := by decide +kernel
theorem dX12_ways_102 : decode cX12_ways 102 = .ok (.aload_n 0, 1) := by decide +kernel
theorem dX12_ways_103 : decode cX12_ways 103 = .ok (.getfield 44, 3) := by decide +kernel
theorem dX12_ways_106 : decode cX12_ways 106 = .ok (.iload_n 2, 1) := by decide +kernel
theorem dX12_ways_107 : decode cX12_ways 107 = .ok (.iaload, 1) := by decide +kernel
theorem dX12_ways_108 : decode cX12_ways 108 = .ok (.ldc 173, 2) := by decide +kernel
theorem dX12_ways_110 : decode cX12_ways 110 = .ok (.if_icmp .le 64, 3) := by decide +kernel
theorem dX12_ways_113 : decode cX12_ways 113 = .ok (.aload_n 0, 1) := by decide +kernel
theorem dX12_ways_114 : decode cX12_ways 114 = .ok (.getfield 44, 3) := by decide +kernel
theorem dX12_ways_117 : decode cX12_ways 117 = .ok (.iload_n 2, 1) := by decide +kernel
theorem dX12_ways_118 : decode cX12_ways 118 = .ok (.iaload, 1) := by decide +kernel
theorem dX12_ways_119 : decode cX12_ways 119 = .ok (.aload_n 0, 1) := by decide +kernel
theorem dX12_ways_120 : decode cX12_ways 120 = .ok (.getfield 28, 3) := by decide +kernel
theorem dX12_ways_123 : decode cX12_ways 123 = .ok (.iload 4, 2) := by decide +kernel
theorem dX12_ways_125 : decode cX12_ways 125 = .ok (.iaload, 1) := by decide +kernel
theorem dX12_ways_126 : decode cX12_ways 126 = .ok (.iadd, 1) := by decide +kernel
theorem dX12_ways_127 : decode cX12_ways 127 = .ok (.aload_n 0, 1) := by decide +kernel
theorem dX12_ways_128 : decode cX12_ways 128 = .ok (.getfield 44, 3) := by decide +kernel
theorem dX12_ways_131 : decode cX12_ways 131 = .ok (.bipush 8, 2) := by decide +kernel
theorem dX12_ways_133 : decode cX12_ways 133 = .ok (.iload_n 3, 1) := by decide +kernel
theorem dX12_ways_134 : decode cX12_ways 134 = .ok (.iadd, 1) := by decide +kernel
theorem dX12_ways_135 : decode cX12_ways 135 = .ok (.iaload, 1) := by decide +kernel
theorem dX12_ways_136 : decode cX12_ways 136 = .ok (.if_icmp .le 38, 3) := by decide +kernel
theorem dX12_ways_139 : decode cX12_ways 139 = .ok (.aload_n 0, 1) := by decide +kernel
theorem dX12_ways_140 : decode cX12_ways 140 = .ok (.getfield 44, 3) := by decide +kernel
theorem dX12_ways_143 : decode cX12_ways 143 = .ok (.bipush 8, 2) := by decide +kernel
theorem dX12_ways_145 : decode cX12_ways 145 = .ok (.iload_n 3, 1) := by decide +kernel
theorem dX12_ways_146 : decode cX12_ways 146 = .ok (.iadd, 1) := by decide +kernel
theorem dX12_ways_147 : decode cX12_ways 147 = .ok (.aload_n 0, 1) := by decide +kernel
theorem dX12_ways_148 : decode cX12_ways 148 = .ok (.getfield 44, 3) := by decide +kernel
theorem dX12_ways_151 : decode cX12_ways 151 = .ok (.iload_n 2, 1) := by decide +kernel
theorem dX12_ways_152 : decode cX12_ways 152 = .ok (.iaload, 1) := by decide +kernel
theorem dX12_ways_153 : decode cX12_ways 153 = .ok (.aload_n 0, 1) := by decide +kernel
theorem dX12_ways_154 : decode cX12_ways 154 = .ok (.getfield 28, 3) := by decide +kernel
theorem dX12_ways_157 : decode cX12_ways 157 = .ok (.iload 4, 2) := by decide +kernel
theorem dX12_ways_159 : decode cX12_ways 159 = .ok (.iaload, 1) := by decide +kernel
theorem dX12_ways_160 : decode cX12_ways 160 = .ok (.iadd, 1) := by decide +kernel
theorem dX12_ways_161 : decode cX12_ways 161 = .ok (.iastore, 1) := by decide +kernel
theorem dX12_ways_162 : decode cX12_ways 162 = .ok (.aload_n 0, 1) := by decide +kernel
theorem dX12_ways_163 : decode cX12_ways 163 = .ok (.getfield 47, 3) := by decide +kernel
theorem dX12_ways_166 : decode cX12_ways 166 = .ok (.bipush 8, 2) := by decide +kernel
theorem dX12_ways_168 : decode cX12_ways 168 = .ok (.iload_n 3, 1) := by decide +kernel
theorem dX12_ways_169 : decode cX12_ways 169 = .ok (.iadd, 1) := by decide +kernel
theorem dX12_ways_170 : decode cX12_ways 170 = .ok (.iload_n 2, 1) := by decide +kernel
theorem dX12_ways_171 : decode cX12_ways 171 = .ok (.iastore, 1) := by decide +kernel
theorem dX12_ways_172 : decode cX12_ways 172 = .ok (.iconst 1, 1) := by decide +kernel
theorem dX12_ways_173 : decode cX12_ways 173 = .ok (.istore_n 1, 1) := by decide +kernel
theorem dX12_ways_174 : decode cX12_ways 174 = .ok (.aload_n 0, 1) := by decide +kernel
theorem dX12_ways_175 : decode cX12_ways 175 = .ok (.getfield 34, 3) := by decide +kernel
theorem dX12_ways_178 : decode cX12_ways 178 = .ok (.iload 4, 2) := by decide +kernel
theorem dX12_ways_180 : decode cX12_ways 180 = .ok (.baload, 1) := by decide +kernel
theorem dX12_ways_181 : decode cX12_ways 181 = .ok (.ifCond .eq 75, 3) := by decide +kernel
theorem dX12_ways_184 : decode cX12_ways 184 = .ok (.aload_n 0, 1) := by decide +kernel
theorem dX12_ways_185 : decode cX12_ways 185 = .ok (.getfield 44, 3) := by decide +kernel
theorem dX12_ways_188 : decode cX12_ways 188 = .ok (.bipush 8, 2) := by decide +kernel
theorem dX12_ways_190 : decode cX12_ways 190 = .ok (.iload_n 3, 1) := by decide +kernel
theorem dX12_ways_191 : decode cX12_ways 191 = .ok (.iadd, 1) := by decide +kernel
theorem dX12_ways_192 : decode cX12_ways 192 = .ok (.iaload, 1) := by decide +kernel
theorem dX12_ways_193 : decode cX12_ways 193 = .ok (.ldc 173, 2) := by decide +kernel
theorem dX12_ways_195 : decode cX12_ways 195 = .ok (.if_icmp .le 61, 3) := by decide +kernel
theorem dX12_ways_198 : decode cX12_ways 198 = .ok (.aload_n 0, 1) := by decide +kernel
theorem dX12_ways_199 : decode cX12_ways 199 = .ok (.getfield 44, 3) := by decide +kernel
theorem dX12_ways_202 : decode cX12_ways 202 = .ok (.bipush 8, 2) := by decide +kernel
theorem dX12_ways_204 : decode cX12_ways 204 = .ok (.iload_n 3, 1) := by decide +kernel
theorem dX12_ways_205 : decode cX12_ways 205 = .ok (.iadd, 1) := by decide +kernel
theorem dX12_ways_206 : decode cX12_ways 206 = .ok (.iaload, 1) := by decide +kernel
theorem dX12_ways_207 : decode cX12_ways 207 = .ok (.aload_n 0, 1) := by decide +kernel
theorem dX12_ways_208 : decode cX12_ways 208 = .ok (.getfield 28, 3) := by decide +kernel
theorem dX12_ways_211 : decode cX12_ways 211 = .ok (.iload 4, 2) := by decide +kernel
theorem dX12_ways_213 : decode cX12_ways 213 = .ok (.iaload, 1) := by decide +kernel
theorem dX12_ways_214 : decode cX12_ways 214 = .ok (.isub, 1) := by decide +kernel
theorem dX12_ways_215 : decode cX12_ways 215 = .ok (.aload_n 0, 1) := by decide +kernel
theorem dX12_ways_216 : decode cX12_ways 216 = .ok (.getfield 44, 3) := by decide +kernel
theorem dX12_ways_219 : decode cX12_ways 219 = .ok (.iload_n 2, 1) := by decide +kernel
theorem dX12_ways_220 : decode cX12_ways 220 = .ok (.iaload, 1) := by decide +kernel
theorem dX12_ways_221 : decode cX12_ways 221 = .ok (.if_icmp .le 35, 3) := by decide +kernel
theorem dX12_ways_224 : decode cX12_ways 224 = .ok (.aload_n 0, 1) := by decide +kernel
theorem dX12_ways_225 : decode cX12_ways 225 = .ok (.getfield 44, 3) := by decide +kernel
theorem dX12_ways_228 : decode cX12_ways 228 = .ok (.iload_n 2, 1) := by decide +kernel
theorem dX12_ways_229 : decode cX12_ways 229 = .ok (.aload_n 0, 1) := by decide +kernel
theorem dX12_ways_230 : decode cX12_ways 230 = .ok (.getfield 44, 3) := by decide +kernel
theorem dX12_ways_233 : decode cX12_ways 233 = .ok (.bipush 8, 2) := by decide +kernel
theorem dX12_ways_235 : decode cX12_ways 235 = .ok (.iload_n 3, 1) := by decide +kernel
theorem dX12_ways_236 : decode cX12_ways 236 = .ok (.iadd, 1) := by decide +kernel
theorem dX12_ways_237 : decode cX12_ways 237 = .ok (.iaload, 1) := by decide +kernel
theorem dX12_ways_238 : decode cX12_ways 238 = .ok (.aload_n 0, 1) := by decide +kernel
theorem dX12_ways_239 : decode cX12_ways 239 = .ok (.getfield 28, 3) := by decide +kernel
theorem dX12_ways_242 : decode cX12_ways 242 = .ok (.iload 4, 2) := by decide +kernel
theorem dX12_ways_244 : decode cX12_ways 244 = .ok (.iaload, 1) := by decide +kernel
theorem dX12_ways_245 : decode cX12_ways 245 = .ok (.isub, 1) := by decide +kernel
theorem dX12_ways_246 : decode cX12_ways 246 = .ok (.iastore, 1) := by decide +kernel
theorem dX12_ways_247 : decode cX12_ways 247 = .ok (.aload_n 0, 1) := by decide +kernel
theorem dX12_ways_248 : decode cX12_ways 248 = .ok (.getfield 47, 3) := by decide +kernel
theorem dX12_ways_251 : decode cX12_ways 251 = .ok (.iload_n 2, 1) := by decide +kernel
theorem dX12_ways_252 : decode cX12_ways 252 = .ok (.iload_n 3, 1) := by decide +kernel
theorem dX12_ways_253 : decode cX12_ways 253 = .ok (.iastore, 1) := by decide +kernel
theorem dX12_ways_254 : decode cX12_ways 254 = .ok (.iconst 1, 1) := by decide +kernel
theorem dX12_ways_255 : decode cX12_ways 255 = .ok (.istore_n 1, 1) := by decide +kernel
theorem dX12_ways_256 : decode cX12_ways 256 = .ok (.iinc 3 1, 3) := by decide +kernel
theorem dX12_ways_259 : decode cX12_ways 259 = .ok (.goto (-196), 3) := by decide +kernel
theorem dX12_ways_262 : decode cX12_ways 262 = .ok (.iinc 2 1, 3) := by decide +kernel
theorem dX12_ways_265 : decode cX12_ways 265 = .ok (.goto (-212), 3) := by decide +kernel
theorem dX12_ways_268 : decode cX12_ways 268 = .ok (.goto (-223), 3) := by decide +kernel
theorem dX12_ways_271 : decode cX12_ways 271 = .ok (.return_, 1) := by decide +kernel
set_option maxRecDepth 20000 in
theorem ggX12_solve_X12_ways : GoodIn wsX12_solve wsX12_ways := goodIn_r _ [14, 9, 1, 2, 15, 4, 7, 6, 8, 16, 21, 22, 23, 24, 25, 26, 27, 28, 29, 30, 31, 32, 33, 34, 35, 36, 37, 38, 39, 40, 41, 42, 43, 44, 45, 46, 47, 48, 49, 50, 51, 52, 53, 54, 55, 56, 57, 58, 59, 60, 61, 62, 63, 64, 65, 66, 67, 68, 69, 70, 71, 72, 73, 74] (by decide +kernel) (by decide +kernel)
set_option maxRecDepth 20000 in
theorem gX12_solve_X12_ways : GoodIn wsX12_solve (wsV RX12 174 RX12 yX12_ways wsX12_ways) := goodIn_app (goodIn_of _ (by decide +kernel)) ggX12_solve_X12_ways
set_option maxRecDepth 20000 in
theorem ggX12_solve_X12_goes : GoodIn wsX12_solve wsX12_goes := goodIn_r _ [20, 9, 5, 16, 6, 2, 21, 22, 23, 24, 25, 26, 27, 28, 29, 30, 31, 32, 33, 34, 35, 36, 37, 38, 39, 40, 41, 42, 43, 44, 45, 46, 47, 48, 49, 50, 51, 52, 53, 54, 55, 56, 57, 58, 59, 60, 61, 62, 63, 64, 65, 66, 67, 68, 69, 70, 71, 72, 73, 74] (by decide +kernel) (by decide +kernel)
set_option maxRecDepth 20000 in
theorem gX12_solve_X12_goes : GoodIn wsX12_solve (wsV RX12 177 RX12 yX12_goes wsX12_goes) := goodIn_app (goodIn_of _ (by decide +kernel)) ggX12_solve_X12_goes
theorem dX12_solve_0 : decode cX12_solve 0 = .ok (.iconst 0, 1) := by decide +kernel
theorem dX12_solve_1 : decode cX12_solve 1 = .ok (.istore_n 1, 1) := by decide +kernel
theorem dX12_solve_2 : decode cX12_solve 2 = .ok (.iconst 0, 1) := by decide +kernel
theorem dX12_solve_3 : decode cX12_solve 3 = .ok (.istore_n 2, 1) := by decide +kernel
theorem dX12_solve_4 : decode cX12_solve 4 = .ok (.iload_n 2, 1) := by decide +kernel
theorem dX12_solve_5 : decode cX12_solve 5 = .ok (.aload_n 0, 1) := by decide +kernel
theorem dX12_solve_6 : decode cX12_solve 6 = .ok (.getfield 158, 3) := by decide +kernel
theorem dX12_solve_9 : decode cX12_solve 9 = .ok (.if_icmp .ge 19, 3) := by decide +kernel
theorem dX12_solve_12 : decode cX12_solve 12 = .ok (.aload_n 0, 1) := by decide +kernel
theorem dX12_solve_13 : decode cX12_solve 13 = .ok (.getfield 38, 3) := by decide +kernel
theorem dX12_solve_16 : decode cX12_solve 16 = .ok (.iload_n 2, 1) := by decide +kernel
theorem dX12_solve_17 : decode cX12_solve 17 = .ok (.aload_n 0, 1) := by decide +kernel
theorem dX12_solve_18 : decode cX12_solve 18 = .ok (.getfield 24, 3) := by decide +kernel
theorem dX12_solve_21 : decode cX12_solve 21 = .ok (.iastore, 1) := by decide +kernel
theorem dX12_solve_22 : decode cX12_solve 22 = .ok (.iinc 2 1, 3) := by decide +kernel
theorem dX12_solve_25 : decode cX12_solve 25 = .ok (.goto (-21), 3) := by decide +kernel
theorem dX12_solve_28 : decode cX12_solve 28 = .ok (.iconst 0, 1) := by decide +kernel
theorem dX12_solve_29 : decode cX12_solve 29 = .ok (.istore_n 2, 1) := by decide +kernel
theorem dX12_solve_30 : decode cX12_solve 30 = .ok (.iload_n 2, 1) := by decide +kernel
theorem dX12_solve_31 : decode cX12_solve 31 = .ok (.aload_n 0, 1) := by decide +kernel
theorem dX12_solve_32 : decode cX12_solve 32 = .ok (.getfield 161, 3) := by decide +kernel
theorem dX12_solve_35 : decode cX12_solve 35 = .ok (.if_icmp .ge 19, 3) := by decide +kernel
theorem dX12_solve_38 : decode cX12_solve 38 = .ok (.aload_n 0, 1) := by decide +kernel
theorem dX12_solve_39 : decode cX12_solve 39 = .ok (.getfield 41, 3) := by decide +kernel
theorem dX12_solve_42 : decode cX12_solve 42 = .ok (.iload_n 2, 1) := by decide +kernel
theorem dX12_solve_43 : decode cX12_solve 43 = .ok (.aload_n 0, 1) := by decide +kernel
theorem dX12_solve_44 : decode cX12_solve 44 = .ok (.getfield 24, 3) := by decide +kernel
theorem dX12_solve_47 : decode cX12_solve 47 = .ok (.iastore, 1) := by decide +kernel
theorem dX12_solve_48 : decode cX12_solve 48 = .ok (.iinc 2 1, 3) := by decide +kernel
theorem dX12_solve_51 : decode cX12_solve 51 = .ok (.goto (-21), 3) := by decide +kernel
theorem dX12_solve_54 : decode cX12_solve 54 = .ok (.iconst 0, 1) := by decide +kernel
theorem dX12_solve_55 : decode cX12_solve 55 = .ok (.istore_n 2, 1) := by decide +kernel
theorem dX12_solve_56 : decode cX12_solve 56 = .ok (.iload_n 2, 1) := by decide +kernel
theorem dX12_solve_57 : decode cX12_solve 57 = .ok (.aload_n 0, 1) := by decide +kernel
theorem dX12_solve_58 : decode cX12_solve 58 = .ok (.getfield 158, 3) := by decide +kernel
theorem dX12_solve_61 : decode cX12_solve 61 = .ok (.if_icmp .ge 105, 3) := by decide +kernel
theorem dX12_solve_64 : decode cX12_solve 64 = .ok (.iconst 0, 1) := by decide +kernel
theorem dX12_solve_65 : decode cX12_solve 65 = .ok (.istore_n 3, 1) := by decide +kernel
theorem dX12_solve_66 : decode cX12_solve 66 = .ok (.iload_n 3, 1) := by decide +kernel
theorem dX12_solve_67 : decode cX12_solve 67 = .ok (.aload_n 0, 1) := by decide +kernel
theorem dX12_solve_68 : decode cX12_solve 68 = .ok (.getfield 161, 3) := by decide +kernel
theorem dX12_solve_71 : decode cX12_solve 71 = .ok (.if_icmp .ge 89, 3) := by decide +kernel
theorem dX12_solve_74 : decode cX12_solve 74 = .ok (.bipush 10, 2) := by decide +kernel
theorem dX12_solve_76 : decode cX12_solve 76 = .ok (.iload_n 2, 1) := by decide +kernel
theorem dX12_solve_77 : decode cX12_solve 77 = .ok (.imul, 1) := by decide +kernel
theorem dX12_solve_78 : decode cX12_solve 78 = .ok (.iload_n 3, 1) := by decide +kernel
theorem dX12_solve_79 : decode cX12_solve 79 = .ok (.iadd, 1) := by decide +kernel
theorem dX12_solve_80 : decode cX12_solve 80 = .ok (.istore 4, 2) := by decide +kernel
theorem dX12_solve_82 : decode cX12_solve 82 = .ok (.aload_n 0, 1) := by decide +kernel
theorem dX12_solve_83 : decode cX12_solve 83 = .ok (.getfield 34, 3) := by decide +kernel
theorem dX12_solve_86 : decode cX12_solve 86 = .ok (.iload 4, 2) := by decide +kernel
theorem dX12_solve_88 : decode cX12_solve 88 = .ok (.iconst 0, 1) := by decide +kernel
theorem dX12_solve_89 : decode cX12_solve 89 = .ok (.bastore, 1) := by decide +kernel
theorem dX12_solve_90 : decode cX12_solve 90 = .ok (.aload_n 0, 1) := by decide +kernel
theorem dX12_solve_91 : decode cX12_solve 91 = .ok (.getfield 31, 3) := by decide +kernel
theorem dX12_solve_94 : decode cX12_solve 94 = .ok (.iload 4, 2) := by decide +kernel
theorem dX12_solve_96 : decode cX12_solve 96 = .ok (.iaload, 1) := by decide +kernel
theorem dX12_solve_97 : decode cX12_solve 97 = .ok (.iconst 1, 1) := by decide +kernel
theorem dX12_solve_98 : decode cX12_solve 98 = .ok (.if_icmp .eq 6, 3) := by decide +kernel
theorem dX12_solve_101 : decode cX12_solve 101 = .ok (.goto 53, 3) := by decide +kernel
theorem dX12_solve_104 : decode cX12_solve 104 = .ok (.iload_n 1, 1) := by decide +kernel
theorem dX12_solve_105 : decode cX12_solve 105 = .ok (.aload_n 0, 1) := by decide +kernel
theorem dX12_solve_106 : decode cX12_solve 106 = .ok (.getfield 28, 3) := by decide +kernel
theorem dX12_solve_109 : decode cX12_solve 109 = .ok (.iload 4, 2) := by decide +kernel
theorem dX12_solve_111 : decode cX12_solve 111 = .ok (.iaload, 1) := by decide +kernel
theorem dX12_solve_112 : decode cX12_solve 112 = .ok (.iadd, 1) := by decide +kernel
theorem dX12_solve_113 : decode cX12_solve 113 = .ok (.istore_n 1, 1) := by decide +kernel
theorem dX12_solve_114 : decode cX12_solve 114 = .ok (.aload_n 0, 1) := by decide +kernel
theorem dX12_solve_115 : decode cX12_solve 115 = .ok (.getfield 38, 3) := by decide +kernel
theorem dX12_solve_118 : decode cX12_solve 118 = .ok (.iload_n 2, 1) := by decide +kernel
theorem dX12_solve_119 : decode cX12_solve 119 = .ok (.dup2, 1) := by decide +kernel
theorem dX12_solve_120 : decode cX12_solve 120 = .ok (.iaload, 1) := by decide +kernel
theorem dX12_solve_121 : decode cX12_solve 121 = .ok (.iconst 1, 1) := by decide +kernel
theorem dX12_solve_122 : decode cX12_solve 122 = .ok (.isub, 1) := by decide +kernel
theorem dX12_solve_123 : decode cX12_solve 123 = .ok (.iastore, 1) := by decide +kernel
theorem dX12_solve_124 : decode cX12_solve 124 = .ok (.aload_n 0, 1) := by decide +kernel
theorem dX12_solve_125 : decode cX12_solve 125 = .ok (.getfield 41, 3) := by decide +kernel
theorem dX12_solve_128 : decode cX12_solve 128 = .ok (.iload_n 3, 1) := by decide +kernel
theorem dX12_solve_129 : decode cX12_solve 129 = .ok (.dup2, 1) := by decide +kernel
theorem dX12_solve_130 : decode cX12_solve 130 = .ok (.iaload, 1) := by decide +kernel
theorem dX12_solve_131 : decode cX12_solve 131 = .ok (.iconst 1, 1) := by decide +kernel
theorem dX12_solve_132 : decode cX12_solve 132 = .ok (.isub, 1) := by decide +kernel
theorem dX12_solve_133 : decode cX12_solve 133 = .ok (.iastore, 1) := by decide +kernel
theorem dX12_solve_134 : decode cX12_solve 134 = .ok (.aload_n 0, 1) := by decide +kernel
theorem dX12_solve_135 : decode cX12_solve 135 = .ok (.getfield 38, 3) := by decide +kernel
theorem dX12_solve_138 : decode cX12_solve 138 = .ok (.iload_n 2, 1) := by decide +kernel
theorem dX12_solve_139 : decode cX12_solve 139 = .ok (.iaload, 1) := by decide +kernel
theorem dX12_solve_140 : decode cX12_solve 140 = .ok (.ifCond .lt 12, 3) := by decide +kernel
theorem dX12_solve_143 : decode cX12_solve 143 = .ok (.aload_n 0, 1) := by decide +kernel
theorem dX12_solve_144 : decode cX12_solve 144 = .ok (.getfield 41, 3) := by decide +kernel
theorem dX12_solve_147 : decode cX12_solve 147 = .ok (.iload_n 3, 1) := by decide +kernel
theorem dX12_solve_148 : decode cX12_solve 148 = .ok (.iaload, 1) := by decide +kernel
theorem dX12_solve_149 : decode cX12_solve 149 = .ok (.ifCond .ge 5, 3) := by decide +kernel
theorem dX12_solve_152 : decode cX12_solve 152 = .ok (.iconst (-1), 1) := by decide +kernel
theorem dX12_solve_153 : decode cX12_solve 153 = .ok (.ireturn, 1) := by decide +kernel
theorem dX12_solve_154 : decode cX12_solve 154 = .ok (.iinc 3 1, 3) := by decide +kernel
theorem dX12_solve_157 : decode cX12_solve 157 = .ok (.goto (-91), 3) := by decide +kernel
theorem dX12_solve_160 : decode cX12_solve 160 = .ok (.iinc 2 1, 3) := by decide +kernel
theorem dX12_solve_163 : decode cX12_solve 163 = .ok (.goto (-107), 3) := by decide +kernel
theorem dX12_solve_166 : decode cX12_solve 166 = .ok (.iconst 0, 1) := by decide +kernel
theorem dX12_solve_167 : decode cX12_solve 167 = .ok (.istore_n 2, 1) := by decide +kernel
theorem dX12_solve_168 : decode cX12_solve 168 = .ok (.iload_n 2, 1) := by decide +kernel
theorem dX12_solve_169 : decode cX12_solve 169 = .ok (.ifCond .lt 88, 3) := by decide +kernel
theorem dX12_solve_172 : decode cX12_solve 172 = .ok (.aload_n 0, 1) := by decide +kernel
theorem dX12_solve_173 : decode cX12_solve 173 = .ok (.invokevirtual 174, 3) := by decide +kernel
theorem dX12_solve_176 : decode cX12_solve 176 = .ok (.iconst (-1), 1) := by decide +kernel
theorem dX12_solve_177 : decode cX12_solve 177 = .ok (.istore_n 2, 1) := by decide +kernel
theorem dX12_solve_178 : decode cX12_solve 178 = .ok (.iconst 0, 1) := by decide +kernel
theorem dX12_solve_179 : decode cX12_solve 179 = .ok (.istore_n 3, 1) := by decide +kernel
theorem dX12_solve_180 : decode cX12_solve 180 = .ok (.iload_n 3, 1) := by decide +kernel
theorem dX12_solve_181 : decode cX12_solve 181 = .ok (.aload_n 0, 1) := by decide +kernel
theorem dX12_solve_182 : decode cX12_solve 182 = .ok (.getfield 161, 3) := by decide +kernel
theorem dX12_solve_185 : decode cX12_solve 185 = .ok (.if_icmp .ge 57, 3) := by decide +kernel
theorem dX12_solve_188 : decode cX12_solve 188 = .ok (.aload_n 0, 1) := by decide +kernel
theorem dX12_solve_189 : decode cX12_solve 189 = .ok (.getfield 41, 3) := by decide +kernel
theorem dX12_solve_192 : decode cX12_solve 192 = .ok (.iload_n 3, 1) := by decide +kernel
theorem dX12_solve_193 : decode cX12_solve 193 = .ok (.iaload, 1) := by decide +kernel
theorem dX12_solve_194 : decode cX12_solve 194 = .ok (.ifCond .le 42, 3) := by decide +kernel
theorem dX12_solve_197 : decode cX12_solve 197 = .ok (.aload_n 0, 1) := by decide +kernel
theorem dX12_solve_198 : decode cX12_solve 198 = .ok (.getfield 44, 3) := by decide +kernel
theorem dX12_solve_201 : decode cX12_solve 201 = .ok (.bipush 8, 2) := by decide +kernel
theorem dX12_solve_203 : decode cX12_solve 203 = .ok (.iload_n 3, 1) := by decide +kernel
theorem dX12_solve_204 : decode cX12_solve 204 = .ok (.iadd, 1) := by decide +kernel
theorem dX12_solve_205 : decode cX12_solve 205 = .ok (.iaload, 1) := by decide +kernel
theorem dX12_solve_206 : decode cX12_solve 206 = .ok (.ifCond .le 30, 3) := by decide +kernel
theorem dX12_solve_209 : decode cX12_solve 209 = .ok (.iload_n 2, 1) := by decide +kernel
theorem dX12_solve_210 : decode cX12_solve 210 = .ok (.ifCond .lt 24, 3) := by decide +kernel
theorem dX12_solve_213 : decode cX12_solve 213 = .ok (.aload_n 0, 1) := by decide +kernel
theorem dX12_solve_214 : decode cX12_solve 214 = .ok (.getfield 44, 3) := by decide +kernel
theorem dX12_solve_217 : decode cX12_solve 217 = .ok (.bipush 8, 2) := by decide +kernel
theorem dX12_solve_219 : decode cX12_solve 219 = .ok (.iload_n 3, 1) := by decide +kernel
theorem dX12_solve_220 : decode cX12_solve 220 = .ok (.iadd, 1) := by decide +kernel
theorem dX12_solve_221 : decode cX12_solve 221 = .ok (.iaload, 1) := by decide +kernel
theorem dX12_solve_222 : decode cX12_solve 222 = .ok (.aload_n 0, 1) := by decide +kernel
theorem dX12_solve_223 : decode cX12_solve 223 = .ok (.getfield 44, 3) := by decide +kernel
theorem dX12_solve_226 : decode cX12_solve 226 = .ok (.bipush 8, 2) := by decide +kernel
theorem dX12_solve_228 : decode cX12_solve 228 = .ok (.iload_n 2, 1) := by decide +kernel
theorem dX12_solve_229 : decode cX12_solve 229 = .ok (.iadd, 1) := by decide +kernel
theorem dX12_solve_230 : decode cX12_solve 230 = .ok (.iaload, 1) := by decide +kernel
theorem dX12_solve_231 : decode cX12_solve 231 = .ok (.if_icmp .le 5, 3) := by decide +kernel
theorem dX12_solve_234 : decode cX12_solve 234 = .ok (.iload_n 3, 1) := by decide +kernel
theorem dX12_solve_235 : decode cX12_solve 235 = .ok (.istore_n 2, 1) := by decide +kernel
theorem dX12_solve_236 : decode cX12_solve 236 = .ok (.iinc 3 1, 3) := by decide +kernel
theorem dX12_solve_239 : decode cX12_solve 239 = .ok (.goto (-59), 3) := by decide +kernel
theorem dX12_solve_242 : decode cX12_solve 242 = .ok (.iload_n 2, 1) := by decide +kernel
theorem dX12_solve_243 : decode cX12_solve 243 = .ok (.ifCond .lt (-75), 3) := by decide +kernel
theorem dX12_solve_246 : decode cX12_solve 246 = .ok (.iload_n 1, 1) := by decide +kernel
theorem dX12_solve_247 : decode cX12_solve 247 = .ok (.aload_n 0, 1) := by decide +kernel
theorem dX12_solve_248 : decode cX12_solve 248 = .ok (.iload_n 2, 1) := by decide +kernel
theorem dX12_solve_249 : decode cX12_solve 249 = .ok (.invokevirtual 177, 3) := by decide +kernel
theorem dX12_solve_252 : decode cX12_solve 252 = .ok (.iadd, 1) := by decide +kernel
theorem dX12_solve_253 : decode cX12_solve 253 = .ok (.istore_n 1, 1) := by decide +kernel
theorem dX12_solve_254 : decode cX12_solve 254 = .ok (.goto (-86), 3) := by decide +kernel
theorem dX12_solve_257 : decode cX12_solve 257 = .ok (.iload_n 1, 1) := by decide +kernel
theorem dX12_solve_258 : decode cX12_solve 258 = .ok (.ireturn, 1) := by decide +kernel
theorem dX12_goes_0 : decode cX12_goes 0 = .ok (.aload_n 0, 1) := by decide +kernel
theorem dX12_goes_1 : decode cX12_goes 1 = .ok (.getfield 44, 3) := by decide +kernel
theorem dX12_goes_4 : decode cX12_goes 4 = .ok (.bipush 8, 2) := by decide +kernel
theorem dX12_goes_6 : decode cX12_goes 6 = .ok (.iload_n 1, 1) := by decide +kernel
theorem dX12_goes_7 : decode cX12_goes 7 = .ok (.iadd, 1) := by decide +kernel
theorem dX12_goes_8 : decode cX12_goes 8 = .ok (.iaload, 1) := by decide +kernel
theorem dX12_goes_9 : decode cX12_goes 9 = .ok (.istore_n 2, 1) := by decide +kernel
theorem dX12_goes_10 : decode cX12_goes 10 = .ok (.aload_n 0, 1) := by decide +kernel
theorem dX12_goes_11 : decode cX12_goes 11 = .ok (.getfield 41, 3) := by decide +kernel
theorem dX12_goes_14 : decode cX12_goes 14 = .ok (.iload_n 1, 1) := by decide +kernel
theorem dX12_goes_15 : decode cX12_goes 15 = .ok (.dup2, 1) := by decide +kernel
theorem dX12_goes_16 : decode cX12_goes 16 = .ok (.iaload, 1) := by decide +kernel
theorem dX12_goes_17 : decode cX12_goes 17 = .ok (.iconst 1, 1) := by decide +kernel
theorem dX12_goes_18 : decode cX12_goes 18 = .ok (.isub, 1) := by decide +kernel
theorem dX12_goes_19 : decode cX12_goes 19 = .ok (.iastore, 1) := by decide +kernel
theorem dX12_goes_20 : decode cX12_goes 20 = .ok (.iload_n 1, 1) := by decide +kernel
theorem dX12_goes_21 : decode cX12_goes 21 = .ok (.istore_n 3, 1) := by decide +kernel
theorem dX12_goes_22 : decode cX12_goes 22 = .ok (.iconst 1, 1) := by decide +kernel
theorem dX12_goes_23 : decode cX12_goes 23 = .ok (.istore 4, 2) := by decide +kernel
theorem dX12_goes_25 : decode cX12_goes 25 = .ok (.iload 4, 2) := by decide +kernel
theorem dX12_goes_27 : decode cX12_goes 27 = .ok (.ifCond .eq 97, 3) := by decide +kernel
theorem dX12_goes_30 : decode cX12_goes 30 = .ok (.aload_n 0, 1) := by decide +kernel
theorem dX12_goes_31 : decode cX12_goes 31 = .ok (.getfield 47, 3) := by decide +kernel
theorem dX12_goes_34 : decode cX12_goes 34 = .ok (.bipush 8, 2) := by decide +kernel
theorem dX12_goes_36 : decode cX12_goes 36 = .ok (.iload_n 3, 1) := by decide +kernel
theorem dX12_goes_37 : decode cX12_goes 37 = .ok (.iadd, 1) := by decide +kernel
theorem dX12_goes_38 : decode cX12_goes 38 = .ok (.iaload, 1) := by decide +kernel
theorem dX12_goes_39 : decode cX12_goes 39 = .ok (.istore 5, 2) := by decide +kernel
theorem dX12_goes_41 : decode cX12_goes 41 = .ok (.aload_n 0, 1) := by decide +kernel
theorem dX12_goes_42 : decode cX12_goes 42 = .ok (.getfield 34, 3) := by decide +kernel
theorem dX12_goes_45 : decode cX12_goes 45 = .ok (.bipush 10, 2) := by decide +kernel
theorem dX12_goes_47 : decode cX12_goes 47 = .ok (.iload 5, 2) := by decide +kernel
theorem dX12_goes_49 : decode cX12_goes 49 = .ok (.imul, 1) := by decide +kernel
theorem dX12_goes_50 : decode cX12_goes 50 = .ok (.iload_n 3, 1) := by decide +kernel
theorem dX12_goes_51 : decode cX12_goes 51 = .ok (.iadd, 1) := by decide +kernel
theorem dX12_goes_52 : decode cX12_goes 52 = .ok (.iconst 1, 1) := by decide +kernel
theorem dX12_goes_53 : decode cX12_goes 53 = .ok (.bastore, 1) := by decide +kernel
theorem dX12_goes_54 : decode cX12_goes 54 = .ok (.aload_n 0, 1) := by decide +kernel
theorem dX12_goes_55 : decode cX12_goes 55 = .ok (.getfield 44, 3) := by decide +kernel
theorem dX12_goes_58 : decode cX12_goes 58 = .ok (.iload 5, 2) := by decide +kernel
theorem dX12_goes_60 : decode cX12_goes 60 = .ok (.iaload, 1) := by decide +kernel
theorem dX12_goes_61 : decode cX12_goes 61 = .ok (.ifCond .ne 13, 3) := by decide +kernel
theorem dX12_goes_64 : decode cX12_goes 64 = .ok (.aload_n 0, 1) := by decide +kernel
theorem dX12_goes_65 : decode cX12_goes 65 = .ok (.getfield 38, 3) := by decide +kernel
theorem dX12_goes_68 : decode cX12_goes 68 = .ok (.iload 5, 2) := by decide +kernel
theorem dX12_goes_70 : decode cX12_goes 70 = .ok (.iaload, 1) := by decide +kernel
theorem dX12_goes_71 : decode cX12_goes 71 = .ok (.ifCond .ne 7, 3) := by decide +kernel
theorem dX12_goes_74 : decode cX12_goes 74 = .ok (.iconst 1, 1) := by decide +kernel
theorem dX12_goes_75 : decode cX12_goes 75 = .ok (.goto 4, 3) := by decide +kernel
theorem dX12_goes_78 : decode cX12_goes 78 = .ok (.iconst 0, 1) := by decide +kernel
theorem dX12_goes_79 : decode cX12_goes 79 = .ok (.istore 4, 2) := by decide +kernel
theorem dX12_goes_81 : decode cX12_goes 81 = .ok (.iload 4, 2) := by decide +kernel
theorem dX12_goes_83 : decode cX12_goes 83 = .ok (.ifCond .ne 17, 3) := by decide +kernel
theorem dX12_goes_86 : decode cX12_goes 86 = .ok (.aload_n 0, 1) := by decide +kernel
theorem dX12_goes_87 : decode cX12_goes 87 = .ok (.getfield 38, 3) := by decide +kernel
theorem dX12_goes_90 : decode cX12_goes 90 = .ok (.iload 5, 2) := by decide +kernel
theorem dX12_goes_92 : decode cX12_goes 92 = .ok (.dup2, 1) := by decide +kernel
theorem dX12_goes_93 : decode cX12_goes 93 = .ok (.iaload, 1) := by decide +kernel
theorem dX12_goes_94 : decode cX12_goes 94 = .ok (.iconst 1, 1) := by decide +kernel
theorem dX12_goes_95 : decode cX12_goes 95 = .ok (.isub, 1) := by decide +kernel
theorem dX12_goes_96 : decode cX12_goes 96 = .ok (.iastore, 1) := by decide +kernel
theorem dX12_goes_97 : decode cX12_goes 97 = .ok (.goto 24, 3) := by decide +kernel
theorem dX12_goes_100 : decode cX12_goes 100 = .ok (.aload_n 0, 1) := by decide +kernel
theorem dX12_goes_101 : decode cX12_goes 101 = .ok (.getfield 47, 3) := by decide +kernel
theorem dX12_goes_104 : decode cX12_goes 104 = .ok (.iload 5, 2) := by decide +kernel
theorem dX12_goes_106 : decode cX12_goes 106 = .ok (.iaload, 1) := by decide +kernel
theorem dX12_goes_107 : decode cX12_goes 107 = .ok (.istore_n 3, 1) := by decide +kernel
theorem dX12_goes_108 : decode cX12_goes 108 = .ok (.aload_n 0, 1) := by decide +kernel
theorem dX12_goes_109 : decode cX12_goes 109 = .ok (.getfield 34, 3) := by decide +kernel
theorem dX12_goes_112 : decode cX12_goes 112 = .ok (.bipush 10, 2) := by decide +kernel
theorem dX12_goes_114 : decode cX12_goes 114 = .ok (.iload 5, 2) := by decide +kernel
theorem dX12_goes_116 : decode cX12_goes 116 = .ok (.imul, 1) := by decide +kernel
theorem dX12_goes_117 : decode cX12_goes 117 = .ok (.iload_n 3, 1) := by decide +kernel
theorem dX12_goes_118 : decode cX12_goes 118 = .ok (.iadd, 1) := by decide +kernel
theorem dX12_goes_119 : decode cX12_goes 119 = .ok (.iconst 0, 1) := by decide +kernel
theorem dX12_goes_120 : decode cX12_goes 120 = .ok (.bastore, 1) := by decide +kernel
theorem dX12_goes_121 : decode cX12_goes 121 = .ok (.goto (-96), 3) := by decide +kernel
theorem dX12_goes_124 : decode cX12_goes 124 = .ok (.iload_n 2, 1) := by decide +kernel
theorem dX12_goes_125 : decode cX12_goes 125 = .ok (.ireturn, 1) := by decide +kernel
set_option maxRecDepth 20000 in
theorem ggX12_bests_X12_solve : GoodIn wsX12_bests wsX12_solve := goodIn_r _ [9, 2, 10, 11, 3, 12, 13, 1, 4, 14, 15, 16, 17, 8, 18, 19, 20, 21, 22, 23, 24, 25, 26, 27, 28, 29, 30, 31, 32, 33, 34, 35, 36, 37, 38, 39, 40, 41, 42, 43, 44, 45, 46, 47, 48, 49, 50, 51, 52, 53, 54, 55, 56, 57, 58, 59, 60, 61, 62, 63, 64, 65, 66, 67, 68, 69, 70, 71, 72, 73, 74, 75, 76, 77, 78] (by decide +kernel) (by decide +kernel)
set_option maxRecDepth 20000 in
theorem gX12_bests_X12_solve : GoodIn wsX12_bests (wsV RX12 180 RX12 yX12_solve wsX12_solve) := goodIn_app (goodIn_of _ (by decide +kernel)) ggX12_bests_X12_solve
theorem dX12_bests_0 : decode cX12_bests 0 = .ok (.iconst 0, 1) := by decide +kernel
theorem dX12_bests_1 : decode cX12_bests 1 = .ok (.istore_n 1, 1) := by decide +kernel
theorem dX12_bests_2 : decode cX12_bests 2 = .ok (.iload_n 1, 1) := by decide +kernel
theorem dX12_bests_3 : decode cX12_bests 3 = .ok (.bipush 80, 2) := by decide +kernel
theorem dX12_bests_5 : decode cX12_bests 5 = .ok (.if_icmp .ge 16, 3) := by decide +kernel
theorem dX12_bests_8 : decode cX12_bests 8 = .ok (.aload_n 0, 1) := by decide +kernel
theorem dX12_bests_9 : decode cX12_bests 9 = .ok (.getfield 31, 3) := by decide +kernel
theorem dX12_bests_12 : decode cX12_bests 12 = .ok (.iload_n 1, 1) := by decide +kernel
theorem dX12_bests_13 : decode cX12_bests 13 = .ok (.iconst 0, 1) := by decide +kernel
theorem dX12_bests_14 : decode cX12_bests 14 = .ok (.iastore, 1) := by decide +kernel
theorem dX12_bests_15 : decode cX12_bests 15 = .ok (.iinc 1 1, 3) := by decide +kernel
theorem dX12_bests_18 : decode cX12_bests 18 = .ok (.goto (-16), 3) := by decide +kernel
theorem dX12_bests_21 : decode cX12_bests 21 = .ok (.iconst 0, 1) := by decide +kernel
theorem dX12_bests_22 : decode cX12_bests 22 = .ok (.istore_n 1, 1) := by decide +kernel
theorem dX12_bests_23 : decode cX12_bests 23 = .ok (.iload_n 1, 1) := by decide +kernel
theorem dX12_bests_24 : decode cX12_bests 24 = .ok (.aload_n 0, 1) := by decide +kernel
theorem dX12_bests_25 : decode cX12_bests 25 = .ok (.getfield 158, 3) := by decide +kernel
theorem dX12_bests_28 : decode cX12_bests 28 = .ok (.if_icmp .ge 51, 3) := by decide +kernel
theorem dX12_bests_31 : decode cX12_bests 31 = .ok (.iconst 0, 1) := by decide +kernel
theorem dX12_bests_32 : decode cX12_bests 32 = .ok (.istore_n 2, 1) := by decide +kernel
theorem dX12_bests_33 : decode cX12_bests 33 = .ok (.iload_n 2, 1) := by decide +kernel
theorem dX12_bests_34 : decode cX12_bests 34 = .ok (.aload_n 0, 1) := by decide +kernel
theorem dX12_bests_35 : decode cX12_bests 35 = .ok (.getfield 161, 3) := by decide +kernel
theorem dX12_bests_38 : decode cX12_bests 38 = .ok (.if_icmp .ge 35, 3) := by decide +kernel
theorem dX12_bests_41 : decode cX12_bests 41 = .ok (.aload_n 0, 1) := by decide +kernel
theorem dX12_bests_42 : decode cX12_bests 42 = .ok (.getfield 28, 3) := by decide +kernel
theorem dX12_bests_45 : decode cX12_bests 45 = .ok (.bipush 10, 2) := by decide +kernel
theorem dX12_bests_47 : decode cX12_bests 47 = .ok (.iload_n 1, 1) := by decide +kernel
theorem dX12_bests_48 : decode cX12_bests 48 = .ok (.imul, 1) := by decide +kernel
theorem dX12_bests_49 : decode cX12_bests 49 = .ok (.iload_n 2, 1) := by decide +kernel
theorem dX12_bests_50 : decode cX12_bests 50 = .ok (.iadd, 1) := by decide +kernel
theorem dX12_bests_51 : decode cX12_bests 51 = .ok (.iaload, 1) := by decide +kernel
theorem dX12_bests_52 : decode cX12_bests 52 = .ok (.ifCond .ne 15, 3) := by decide +kernel
theorem dX12_bests_55 : decode cX12_bests 55 = .ok (.aload_n 0, 1) := by decide +kernel
theorem dX12_bests_56 : decode cX12_bests 56 = .ok (.getfield 31, 3) := by decide +kernel
theorem dX12_bests_59 : decode cX12_bests 59 = .ok (.bipush 10, 2) := by decide +kernel
theorem dX12_bests_61 : decode cX12_bests 61 = .ok (.iload_n 1, 1) := by decide +kernel
theorem dX12_bests_62 : decode cX12_bests 62 = .ok (.imul, 1) := by decide +kernel
theorem dX12_bests_63 : decode cX12_bests 63 = .ok (.iload_n 2, 1) := by decide +kernel
theorem dX12_bests_64 : decode cX12_bests 64 = .ok (.iadd, 1) := by decide +kernel
theorem dX12_bests_65 : decode cX12_bests 65 = .ok (.iconst 2, 1) := by decide +kernel
theorem dX12_bests_66 : decode cX12_bests 66 = .ok (.iastore, 1) := by decide +kernel
theorem dX12_bests_67 : decode cX12_bests 67 = .ok (.iinc 2 1, 3) := by decide +kernel
theorem dX12_bests_70 : decode cX12_bests 70 = .ok (.goto (-37), 3) := by decide +kernel
theorem dX12_bests_73 : decode cX12_bests 73 = .ok (.iinc 1 1, 3) := by decide +kernel
theorem dX12_bests_76 : decode cX12_bests 76 = .ok (.goto (-53), 3) := by decide +kernel
theorem dX12_bests_79 : decode cX12_bests 79 = .ok (.aload_n 0, 1) := by decide +kernel
theorem dX12_bests_80 : decode cX12_bests 80 = .ok (.invokevirtual 180, 3) := by decide +kernel
theorem dX12_bests_83 : decode cX12_bests 83 = .ok (.istore_n 1, 1) := by decide +kernel
theorem dX12_bests_84 : decode cX12_bests 84 = .ok (.iconst 0, 1) := by decide +kernel
theorem dX12_bests_85 : decode cX12_bests 85 = .ok (.istore_n 2, 1) := by decide +kernel
theorem dX12_bests_86 : decode cX12_bests 86 = .ok (.iload_n 2, 1) := by decide +kernel
theorem dX12_bests_87 : decode cX12_bests 87 = .ok (.aload_n 0, 1) := by decide +kernel
theorem dX12_bests_88 : decode cX12_bests 88 = .ok (.getfield 158, 3) := by decide +kernel
theorem dX12_bests_91 : decode cX12_bests 91 = .ok (.if_icmp .ge 70, 3) := by decide +kernel
theorem dX12_bests_94 : decode cX12_bests 94 = .ok (.iconst 0, 1) := by decide +kernel
theorem dX12_bests_95 : decode cX12_bests 95 = .ok (.istore_n 3, 1) := by decide +kernel
theorem dX12_bests_96 : decode cX12_bests 96 = .ok (.iload_n 3, 1) := by decide +kernel
theorem dX12_bests_97 : decode cX12_bests 97 = .ok (.aload_n 0, 1) := by decide +kernel
theorem dX12_bests_98 : decode cX12_bests 98 = .ok (.getfield 161, 3) := by decide +kernel
theorem dX12_bests_101 : decode cX12_bests 101 = .ok (.if_icmp .ge 54, 3) := by decide +kernel
theorem dX12_bests_104 : decode cX12_bests 104 = .ok (.bipush 10, 2) := by decide +kernel
theorem dX12_bests_106 : decode cX12_bests 106 = .ok (.iload_n 2, 1) := by decide +kernel
theorem dX12_bests_107 : decode cX12_bests 107 = .ok (.imul, 1) := by decide +kernel
theorem dX12_bests_108 : decode cX12_bests 108 = .ok (.iload_n 3, 1) := by decide +kernel
theorem dX12_bests_109 : decode cX12_bests 109 = .ok (.iadd, 1) := by decide +kernel
theorem dX12_bests_110 : decode cX12_bests 110 = .ok (.istore 4, 2) := by decide +kernel
theorem dX12_bests_112 : decode cX12_bests 112 = .ok (.aload_n 0, 1) := by decide +kernel
theorem dX12_bests_113 : decode cX12_bests 113 = .ok (.getfield 31, 3) := by decide +kernel
theorem dX12_bests_116 : decode cX12_bests 116 = .ok (.iload 4, 2) := by decide +kernel
theorem dX12_bests_118 : decode cX12_bests 118 = .ok (.iaload, 1) := by decide +kernel
theorem dX12_bests_119 : decode cX12_bests 119 = .ok (.ifCond .eq 6, 3) := by decide +kernel
theorem dX12_bests_122 : decode cX12_bests 122 = .ok (.goto 27, 3) := by decide +kernel
theorem dX12_bests_125 : decode cX12_bests 125 = .ok (.aload_n 0, 1) := by decide +kernel
theorem dX12_bests_126 : decode cX12_bests 126 = .ok (.getfield 31, 3) := by decide +kernel
theorem dX12_bests_129 : decode cX12_bests 129 = .ok (.iload 4, 2) := by decide +kernel
theorem dX12_bests_131 : decode cX12_bests 131 = .ok (.iconst 1, 1) := by decide +kernel
theorem dX12_bests_132 : decode cX12_bests 132 = .ok (.iastore, 1) := by decide +kernel
theorem dX12_bests_133 : decode cX12_bests 133 = .ok (.aload_n 0, 1) := by decide +kernel
theorem dX12_bests_134 : decode cX12_bests 134 = .ok (.invokevirtual 180, 3) := by decide +kernel
theorem dX12_bests_137 : decode cX12_bests 137 = .ok (.iload_n 1, 1) := by decide +kernel
theorem dX12_bests_138 : decode cX12_bests 138 = .ok (.if_icmp .eq 11, 3) := by decide +kernel
theorem dX12_bests_141 : decode cX12_bests 141 = .ok (.aload_n 0, 1) := by decide +kernel
theorem dX12_bests_142 : decode cX12_bests 142 = .ok (.getfield 31, 3) := by decide +kernel
theorem dX12_bests_145 : decode cX12_bests 145 = .ok (.iload 4, 2) := by decide +kernel
theorem dX12_bests_147 : decode cX12_bests 147 = .ok (.iconst 2, 1) := by decide +kernel
theorem dX12_bests_148 : decode cX12_bests 148 = .ok (.iastore, 1) := by decide +kernel
theorem dX12_bests_149 : decode cX12_bests 149 = .ok (.iinc 3 1, 3) := by decide +kernel
theorem dX12_bests_152 : decode cX12_bests 152 = .ok (.goto (-56), 3) := by decide +kernel
theorem dX12_bests_155 : decode cX12_bests 155 = .ok (.iinc 2 1, 3) := by decide +kernel
theorem dX12_bests_158 : decode cX12_bests 158 = .ok (.goto (-72), 3) := by decide +kernel
theorem dX12_bests_161 : decode cX12_bests 161 = .ok (.iload_n 1, 1) := by decide +kernel
theorem dX12_bests_162 : decode cX12_bests 162 = .ok (.ireturn, 1) := by decide +kernel
set_option maxRecDepth 20000 in
theorem ggX12_best_X12_bests : GoodIn wsX12_best wsX12_bests := goodIn_r _ [7, 8, 9, 10, 11, 12, 13, 14, 6, 15, 16, 17, 18, 19, 20, 21, 22, 23, 24, 25, 26, 27, 28, 29, 30, 31, 32, 33, 34, 35, 36, 37, 38, 39, 40, 41, 42, 43, 44, 45, 46, 47, 48, 49, 50, 51, 52, 53, 54, 55, 56, 57, 58, 59, 60, 61, 62, 63, 64, 65, 66, 67, 68, 69, 70, 71, 72, 73, 74, 75, 76, 77, 78, 79, 80, 81, 82, 83, 84] (by decide +kernel) (by decide +kernel)
set_option maxRecDepth 20000 in
theorem gX12_best_X12_bests : GoodIn wsX12_best (wsV RX12 184 RX12 yX12_bests wsX12_bests) := goodIn_app (goodIn_of _ (by decide +kernel)) ggX12_best_X12_bests
theorem dX12_best_0 : decode cX12_best 0 = .ok (.aload_n 0, 1) := by decide +kernel
theorem dX12_best_1 : decode cX12_best 1 = .ok (.iconst 0, 1) := by decide +kernel
theorem dX12_best_2 : decode cX12_best 2 = .ok (.putfield 134, 3) := by decide +kernel
theorem dX12_best_5 : decode cX12_best 5 = .ok (.aload_n 0, 1) := by decide +kernel
theorem dX12_best_6 : decode cX12_best 6 = .ok (.iconst 0, 1) := by decide +kernel
theorem dX12_best_7 : decode cX12_best 7 = .ok (.putfield 137, 3) := by decide +kernel
theorem dX12_best_10 : decode cX12_best 10 = .ok (.aload_n 0, 1) := by decide +kernel
theorem dX12_best_11 : decode cX12_best 11 = .ok (.invokevirtual 184, 3) := by decide +kernel
theorem dX12_best_14 : decode cX12_best 14 = .ok (.ireturn, 1) := by decide +kernel
set_option maxRecDepth 20000 in
theorem ggX12_lays_X12_bests : GoodIn wsX12_lays wsX12_bests := goodIn_r _ [10, 5, 3, 4, 11, 12, 13, 14, 9, 15, 16, 17, 18, 19, 20, 21, 22, 23, 24, 25, 26, 27, 28, 29, 30, 41, 42, 43, 44, 45, 46, 47, 48, 49, 50, 51, 52, 53, 54, 55, 56, 57, 58, 59, 60, 61, 62, 63, 64, 65, 66, 67, 68, 69, 70, 71, 72, 73, 74, 75, 76, 77, 78, 79, 80, 81, 82, 83, 84, 85, 86, 87, 88, 89, 90, 91, 92, 93, 94] (by decide +kernel) (by decide +kernel)
set_option maxRecDepth 20000 in
theorem gX12_lays_X12_bests : GoodIn wsX12_lays (wsV RX12 184 RX12 yX12_bests wsX12_bests) := goodIn_app (goodIn_of _ (by decide +kernel)) ggX12_lays_X12_bests
set_option maxRecDepth 20000 in
theorem ggX12_lays_X12_lay : GoodIn wsX12_lays wsX12_lay := goodIn_r _ [34, 17, 1, 2, 35, 36, 37, 9, 38, 39, 40, 41, 42, 43, 44, 45, 46, 47, 48, 49, 50, 51, 52, 53, 54, 55, 56, 57, 58, 59, 60, 61, 62, 63, 64, 65, 66, 67, 68, 69, 70, 71, 72, 73, 74, 75, 76, 77, 78, 79, 80, 81, 82, 83, 84, 85, 86, 87, 88, 89, 90, 91, 92, 93, 94] (by decide +kernel) (by decide +kernel)
set_option maxRecDepth 20000 in
theorem gX12_lays_X12_lay : GoodIn wsX12_lays (wsV RX12 187 RX12 yX12_lay wsX12_lay) := goodIn_app (goodIn_of _ (by decide +kernel)) ggX12_lays_X12_lay
theorem dX12_lays_0 : decode cX12_lays 0 = .ok (.aload_n 0, 1) := by decide +kernel
theorem dX12_lays_1 : decode cX12_lays 1 = .ok (.invokevirtual 184, 3) := by decide +kernel
theorem dX12_lays_4 : decode cX12_lays 4 = .ok (.pop, 1) := by decide +kernel
theorem dX12_lays_5 : decode cX12_lays 5 = .ok (.iconst 0, 1) := by decide +kernel
theorem dX12_lays_6 : decode cX12_lays 6 = .ok (.istore_n 1, 1) := by decide +kernel
theorem dX12_lays_7 : decode cX12_lays 7 = .ok (.iload_n 1, 1) := by decide +kernel
theorem dX12_lays_8 : decode cX12_lays 8 = .ok (.bipush 64, 2) := by decide +kernel
theorem dX12_lays_10 : decode cX12_lays 10 = .ok (.if_icmp .ge 16, 3) := by decide +kernel
theorem dX12_lays_13 : decode cX12_lays 13 = .ok (.aload_n 0, 1) := by decide +kernel
theorem dX12_lays_14 : decode cX12_lays 14 = .ok (.getfield 50, 3) := by decide +kernel
theorem dX12_lays_17 : decode cX12_lays 17 = .ok (.iload_n 1, 1) := by decide +kernel
theorem dX12_lays_18 : decode cX12_lays 18 = .ok (.iconst (-1), 1) := by decide +kernel
theorem dX12_lays_19 : decode cX12_lays 19 = .ok (.iastore, 1) := by decide +kernel
theorem dX12_lays_20 : decode cX12_lays 20 = .ok (.iinc 1 1, 3) := by decide +kernel
theorem dX12_lays_23 : decode cX12_lays 23 = .ok (.goto (-16), 3) := by decide +kernel
theorem dX12_lays_26 : decode cX12_lays 26 = .ok (.iconst 0, 1) := by decide +kernel
theorem dX12_lays_27 : decode cX12_lays 27 = .ok (.istore_n 1, 1) := by decide +kernel
theorem dX12_lays_28 : decode cX12_lays 28 = .ok (.iload_n 1, 1) := by decide +kernel
theorem dX12_lays_29 : decode cX12_lays 29 = .ok (.bipush 80, 2) := by decide +kernel
theorem dX12_lays_31 : decode cX12_lays 31 = .ok (.if_icmp .ge 16, 3) := by decide +kernel
theorem dX12_lays_34 : decode cX12_lays 34 = .ok (.aload_n 0, 1) := by decide +kernel
theorem dX12_lays_35 : decode cX12_lays 35 = .ok (.getfield 53, 3) := by decide +kernel
theorem dX12_lays_38 : decode cX12_lays 38 = .ok (.iload_n 1, 1) := by decide +kernel
theorem dX12_lays_39 : decode cX12_lays 39 = .ok (.iconst (-1), 1) := by decide +kernel
theorem dX12_lays_40 : decode cX12_lays 40 = .ok (.iastore, 1) := by decide +kernel
theorem dX12_lays_41 : decode cX12_lays 41 = .ok (.iinc 1 1, 3) := by decide +kernel
theorem dX12_lays_44 : decode cX12_lays 44 = .ok (.goto (-16), 3) := by decide +kernel
theorem dX12_lays_47 : decode cX12_lays 47 = .ok (.iconst 0, 1) := by decide +kernel
theorem dX12_lays_48 : decode cX12_lays 48 = .ok (.istore_n 1, 1) := by decide +kernel
theorem dX12_lays_49 : decode cX12_lays 49 = .ok (.iload_n 1, 1) := by decide +kernel
theorem dX12_lays_50 : decode cX12_lays 50 = .ok (.aload_n 0, 1) := by decide +kernel
theorem dX12_lays_51 : decode cX12_lays 51 = .ok (.getfield 158, 3) := by decide +kernel
theorem dX12_lays_54 : decode cX12_lays 54 = .ok (.if_icmp .ge 46, 3) := by decide +kernel
theorem dX12_lays_57 : decode cX12_lays 57 = .ok (.iconst 0, 1) := by decide +kernel
theorem dX12_lays_58 : decode cX12_lays 58 = .ok (.istore_n 2, 1) := by decide +kernel
theorem dX12_lays_59 : decode cX12_lays 59 = .ok (.iload_n 2, 1) := by decide +kernel
theorem dX12_lays_60 : decode cX12_lays 60 = .ok (.aload_n 0, 1) := by decide +kernel
theorem dX12_lays_61 : decode cX12_lays 61 = .ok (.getfield 161, 3) := by decide +kernel
theorem dX12_lays_64 : decode cX12_lays 64 = .ok (.if_icmp .ge 30, 3) := by decide +kernel
theorem dX12_lays_67 : decode cX12_lays 67 = .ok (.aload_n 0, 1) := by decide +kernel
theorem dX12_lays_68 : decode cX12_lays 68 = .ok (.getfield 31, 3) := by decide +kernel
theorem dX12_lays_71 : decode cX12_lays 71 = .ok (.bipush 10, 2) := by decide +kernel
theorem dX12_lays_73 : decode cX12_lays 73 = .ok (.iload_n 1, 1) := by decide +kernel
theorem dX12_lays_74 : decode cX12_lays 74 = .ok (.imul, 1) := by decide +kernel
theorem dX12_lays_75 : decode cX12_lays 75 = .ok (.iload_n 2, 1) := by decide +kernel
theorem dX12_lays_76 : decode cX12_lays 76 = .ok (.iadd, 1) := by decide +kernel
theorem dX12_lays_77 : decode cX12_lays 77 = .ok (.iaload, 1) := by decide +kernel
theorem dX12_lays_78 : decode cX12_lays 78 = .ok (.iconst 1, 1) := by decide +kernel
theorem dX12_lays_79 : decode cX12_lays 79 = .ok (.if_icmp .ne 9, 3) := by decide +kernel
theorem dX12_lays_82 : decode cX12_lays 82 = .ok (.aload_n 0, 1) := by decide +kernel
theorem dX12_lays_83 : decode cX12_lays 83 = .ok (.iload_n 1, 1) := by decide +kernel
theorem dX12_lays_84 : decode cX12_lays 84 = .ok (.iload_n 2, 1) := by decide +kernel
theorem dX12_lays_85 : decode cX12_lays 85 = .ok (.invokevirtual 187, 3) := by decide +kernel
theorem dX12_lays_88 : decode cX12_lays 88 = .ok (.iinc 2 1, 3) := by decide +kernel
theorem dX12_lays_91 : decode cX12_lays 91 = .ok (.goto (-32), 3) := by decide +kernel
theorem dX12_lays_94 : decode cX12_lays 94 = .ok (.iinc 1 1, 3) := by decide +kernel
theorem dX12_lays_97 : decode cX12_lays 97 = .ok (.goto (-48), 3) := by decide +kernel
theorem dX12_lays_100 : decode cX12_lays 100 = .ok (.return_, 1) := by decide +kernel
set_option maxRecDepth 20000 in
theorem ggX12_lay_X12_turns : GoodIn wsX12_lay wsX12_turns := goodIn_r _ [8, 3, 9, 2, 10, 11, 12, 13, 14, 15, 16, 17, 18, 19, 20, 21, 22, 23, 24, 25, 26, 27, 28, 29, 30, 31, 32, 33, 34, 35, 36, 37, 38, 39, 40, 41, 42, 43, 44, 45, 46, 47, 48, 49, 50, 51, 52, 53, 54, 55, 56, 57, 58, 59, 60, 61, 62, 63, 64] (by decide +kernel) (by decide +kernel)
set_option maxRecDepth 20000 in
theorem gX12_lay_X12_turns : GoodIn wsX12_lay (wsV RX12 191 RX12 yX12_turns wsX12_turns) := goodIn_app (goodIn_of _ (by decide +kernel)) ggX12_lay_X12_turns
theorem dX12_lay_0 : decode cX12_lay 0 = .ok (.iconst (-1), 1) := by decide +kernel
theorem dX12_lay_1 : decode cX12_lay 1 = .ok (.istore_n 3, 1) := by decide +kernel
theorem dX12_lay_2 : decode cX12_lay 2 = .ok (.iconst (-1), 1) := by decide +kernel
theorem dX12_lay_3 : decode cX12_lay 3 = .ok (.istore 4, 2) := by decide +kernel
theorem dX12_lay_5 : decode cX12_lay 5 = .ok (.iconst (-1), 1) := by decide +kernel
theorem dX12_lay_6 : decode cX12_lay 6 = .ok (.istore 5, 2) := by decide +kernel
theorem dX12_lay_8 : decode cX12_lay 8 = .ok (.aload_n 0, 1) := by decide +kernel
theorem dX12_lay_9 : decode cX12_lay 9 = .ok (.getfield 24, 3) := by decide +kernel
theorem dX12_lay_12 : decode cX12_lay 12 = .ok (.iconst 1, 1) := by decide +kernel
theorem dX12_lay_13 : decode cX12_lay 13 = .ok (.isub, 1) := by decide +kernel
theorem dX12_lay_14 : decode cX12_lay 14 = .ok (.istore 6, 2) := by decide +kernel
theorem dX12_lay_16 : decode cX12_lay 16 = .ok (.iload 6, 2) := by decide +kernel
theorem dX12_lay_18 : decode cX12_lay 18 = .ok (.ifCond .lt 84, 3) := by decide +kernel
theorem dX12_lay_21 : decode cX12_lay 21 = .ok (.aload_n 0, 1) := by decide +kernel
theorem dX12_lay_22 : decode cX12_lay 22 = .ok (.getfield 50, 3) := by decide +kernel
theorem dX12_lay_25 : decode cX12_lay 25 = .ok (.bipush 8, 2) := by decide +kernel
theorem dX12_lay_27 : decode cX12_lay 27 = .ok (.iload_n 1, 1) := by decide +kernel
theorem dX12_lay_28 : decode cX12_lay 28 = .ok (.imul, 1) := by decide +kernel
theorem dX12_lay_29 : decode cX12_lay 29 = .ok (.iload 6, 2) := by decide +kernel
theorem dX12_lay_31 : decode cX12_lay 31 = .ok (.iadd, 1) := by decide +kernel
theorem dX12_lay_32 : decode cX12_lay 32 = .ok (.iaload, 1) := by decide +kernel
theorem dX12_lay_33 : decode cX12_lay 33 = .ok (.ifCond .ge 7, 3) := by decide +kernel
theorem dX12_lay_36 : decode cX12_lay 36 = .ok (.iconst 1, 1) := by decide +kernel
theorem dX12_lay_37 : decode cX12_lay 37 = .ok (.goto 4, 3) := by decide +kernel
theorem dX12_lay_40 : decode cX12_lay 40 = .ok (.iconst 0, 1) := by decide +kernel
theorem dX12_lay_41 : decode cX12_lay 41 = .ok (.istore 7, 2) := by decide +kernel
theorem dX12_lay_43 : decode cX12_lay 43 = .ok (.aload_n 0, 1) := by decide +kernel
theorem dX12_lay_44 : decode cX12_lay 44 = .ok (.getfield 53, 3) := by decide +kernel
theorem dX12_lay_47 : decode cX12_lay 47 = .ok (.bipush 8, 2) := by decide +kernel
theorem dX12_lay_49 : decode cX12_lay 49 = .ok (.iload_n 2, 1) := by decide +kernel
theorem dX12_lay_50 : decode cX12_lay 50 = .ok (.imul, 1) := by decide +kernel
theorem dX12_lay_51 : decode cX12_lay 51 = .ok (.iload 6, 2) := by decide +kernel
theorem dX12_lay_53 : decode cX12_lay 53 = .ok (.iadd, 1) := by decide +kernel
theorem dX12_lay_54 : decode cX12_lay 54 = .ok (.iaload, 1) := by decide +kernel
theorem dX12_lay_55 : decode cX12_lay 55 = .ok (.ifCond .ge 7, 3) := by decide +kernel
theorem dX12_lay_58 : decode cX12_lay 58 = .ok (.iconst 1, 1) := by decide +kernel
theorem dX12_lay_59 : decode cX12_lay 59 = .ok (.goto 4, 3) := by decide +kernel
theorem dX12_lay_62 : decode cX12_lay 62 = .ok (.iconst 0, 1) := by decide +kernel
theorem dX12_lay_63 : decode cX12_lay 63 = .ok (.istore 8, 2) := by decide +kernel
theorem dX12_lay_65 : decode cX12_lay 65 = .ok (.iload 7, 2) := by decide +kernel
theorem dX12_lay_67 : decode cX12_lay 67 = .ok (.ifCond .eq 11, 3) := by decide +kernel
theorem dX12_lay_70 : decode cX12_lay 70 = .ok (.iload 8, 2) := by decide +kernel
theorem dX12_lay_72 : decode cX12_lay 72 = .ok (.ifCond .eq 6, 3) := by decide +kernel
theorem dX12_lay_75 : decode cX12_lay 75 = .ok (.iload 6, 2) := by decide +kernel
theorem dX12_lay_77 : decode cX12_lay 77 = .ok (.istore_n 3, 1) := by decide +kernel
theorem dX12_lay_78 : decode cX12_lay 78 = .ok (.iload 7, 2) := by decide +kernel
theorem dX12_lay_80 : decode cX12_lay 80 = .ok (.ifCond .eq 7, 3) := by decide +kernel
theorem dX12_lay_83 : decode cX12_lay 83 = .ok (.iload 6, 2) := by decide +kernel
theorem dX12_lay_85 : decode cX12_lay 85 = .ok (.istore 4, 2) := by decide +kernel
theorem dX12_lay_87 : decode cX12_lay 87 = .ok (.iload 8, 2) := by decide +kernel
theorem dX12_lay_89 : decode cX12_lay 89 = .ok (.ifCond .eq 7, 3) := by decide +kernel
theorem dX12_lay_92 : decode cX12_lay 92 = .ok (.iload 6, 2) := by decide +kernel
theorem dX12_lay_94 : decode cX12_lay 94 = .ok (.istore 5, 2) := by decide +kernel
theorem dX12_lay_96 : decode cX12_lay 96 = .ok (.iinc 6 (-1), 3) := by decide +kernel
theorem dX12_lay_99 : decode cX12_lay 99 = .ok (.goto (-83), 3) := by decide +kernel
theorem dX12_lay_102 : decode cX12_lay 102 = .ok (.iload_n 3, 1) := by decide +kernel
theorem dX12_lay_103 : decode cX12_lay 103 = .ok (.ifCond .ge 15, 3) := by decide +kernel
theorem dX12_lay_106 : decode cX12_lay 106 = .ok (.aload_n 0, 1) := by decide +kernel
theorem dX12_lay_107 : decode cX12_lay 107 = .ok (.iload_n 2, 1) := by decide +kernel
theorem dX12_lay_108 : decode cX12_lay 108 = .ok (.iload 4, 2) := by decide +kernel
theorem dX12_lay_110 : decode cX12_lay 110 = .ok (.iload 5, 2) := by decide +kernel
theorem dX12_lay_112 : decode cX12_lay 112 = .ok (.invokevirtual 191, 3) := by decide +kernel
theorem dX12_lay_115 : decode cX12_lay 115 = .ok (.iload 4, 2) := by decide +kernel
theorem dX12_lay_117 : decode cX12_lay 117 = .ok (.istore_n 3, 1) := by decide +kernel
theorem dX12_lay_118 : decode cX12_lay 118 = .ok (.aload_n 0, 1) := by decide +kernel
theorem dX12_lay_119 : decode cX12_lay 119 = .ok (.getfield 50, 3) := by decide +kernel
theorem dX12_lay_122 : decode cX12_lay 122 = .ok (.bipush 8, 2) := by decide +kernel
theorem dX12_lay_124 : decode cX12_lay 124 = .ok (.iload_n 1, 1) := by decide +kernel
theorem dX12_lay_125 : decode cX12_lay 125 = .ok (.imul, 1) := by decide +kernel
theorem dX12_lay_126 : decode cX12_lay 126 = .ok (.iload_n 3, 1) := by decide +kernel
theorem dX12_lay_127 : decode cX12_lay 127 = .ok (.iadd, 1) := by decide +kernel
theorem dX12_lay_128 : decode cX12_lay 128 = .ok (.iload_n 2, 1) := by decide +kernel
theorem dX12_lay_129 : decode cX12_lay 129 = .ok (.iastore, 1) := by decide +kernel
theorem dX12_lay_130 : decode cX12_lay 130 = .ok (.aload_n 0, 1) := by decide +kernel
theorem dX12_lay_131 : decode cX12_lay 131 = .ok (.getfield 53, 3) := by decide +kernel
theorem dX12_lay_134 : decode cX12_lay 134 = .ok (.bipush 8, 2) := by decide +kernel
theorem dX12_lay_136 : decode cX12_lay 136 = .ok (.iload_n 2, 1) := by decide +kernel
theorem dX12_lay_137 : decode cX12_lay 137 = .ok (.imul, 1) := by decide +kernel
theorem dX12_lay_138 : decode cX12_lay 138 = .ok (.iload_n 3, 1) := by decide +kernel
theorem dX12_lay_139 : decode cX12_lay 139 = .ok (.iadd, 1) := by decide +kernel
theorem dX12_lay_140 : decode cX12_lay 140 = .ok (.iload_n 1, 1) := by decide +kernel
theorem dX12_lay_141 : decode cX12_lay 141 = .ok (.iastore, 1) := by decide +kernel
theorem dX12_lay_142 : decode cX12_lay 142 = .ok (.return_, 1) := by decide +kernel
theorem dX12_turns_0 : decode cX12_turns 0 = .ok (.iconst 0, 1) := by decide +kernel
theorem dX12_turns_1 : decode cX12_turns 1 = .ok (.istore 4, 2) := by decide +kernel
theorem dX12_turns_3 : decode cX12_turns 3 = .ok (.iload_n 1, 1) := by decide +kernel
theorem dX12_turns_4 : decode cX12_turns 4 = .ok (.istore 5, 2) := by decide +kernel
theorem dX12_turns_6 : decode cX12_turns 6 = .ok (.iconst 1, 1) := by decide +kernel
theorem dX12_turns_7 : decode cX12_turns 7 = .ok (.istore 6, 2) := by decide +kernel
theorem dX12_turns_9 : decode cX12_turns 9 = .ok (.iconst 1, 1) := by decide +kernel
theorem dX12_turns_10 : decode cX12_turns 10 = .ok (.istore 7, 2) := by decide +kernel
theorem dX12_turns_12 : decode cX12_turns 12 = .ok (.iload 7, 2) := by decide +kernel
theorem dX12_turns_14 : decode cX12_turns 14 = .ok (.ifCond .eq 123, 3) := by decide +kernel
theorem dX12_turns_17 : decode cX12_turns 17 = .ok (.iload 6, 2) := by decide +kernel
theorem dX12_turns_19 : decode cX12_turns 19 = .ok (.ifCond .eq 18, 3) := by decide +kernel
theorem dX12_turns_22 : decode cX12_turns 22 = .ok (.aload_n 0, 1) := by decide +kernel
theorem dX12_turns_23 : decode cX12_turns 23 = .ok (.getfield 53, 3) := by decide +kernel
theorem dX12_turns_26 : decode cX12_turns 26 = .ok (.bipush 8, 2) := by decide +kernel
theorem dX12_turns_28 : decode cX12_turns 28 = .ok (.iload 5, 2) := by decide +kernel
theorem dX12_turns_30 : decode cX12_turns 30 = .ok (.imul, 1) := by decide +kernel
theorem dX12_turns_31 : decode cX12_turns 31 = .ok (.iload_n 2, 1) := by decide +kernel
theorem dX12_turns_32 : decode cX12_turns 32 = .ok (.iadd, 1) := by decide +kernel
theorem dX12_turns_33 : decode cX12_turns 33 = .ok (.iaload, 1) := by decide +kernel
theorem dX12_turns_34 : decode cX12_turns 34 = .ok (.goto 12, 3) := by decide +kernel
theorem dX12_turns_37 : decode cX12_turns 37 = .ok (.aload_n 0, 1) := by decide +kernel
theorem dX12_turns_38 : decode cX12_turns 38 = .ok (.getfield 56, 3) := by decide +kernel
theorem dX12_turns_41 : decode cX12_turns 41 = .ok (.iload 4, 2) := by decide +kernel
theorem dX12_turns_43 : decode cX12_turns 43 = .ok (.iconst 1, 1) := by decide +kernel
