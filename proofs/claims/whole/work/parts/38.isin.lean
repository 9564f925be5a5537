theorem dX12_isIn_0 : decode cX12_isIn 0 = .ok (.iconst 0, 1) := by decide +kernel
theorem dX12_isIn_1 : decode cX12_isIn 1 = .ok (.istore 7, 2) := by decide +kernel
theorem dX12_isIn_3 : decode cX12_isIn 3 = .ok (.sipush 1000, 3) := by decide +kernel
theorem dX12_isIn_6 : decode cX12_isIn 6 = .ok (.iload_n 1, 1) := by decide +kernel
theorem dX12_isIn_7 : decode cX12_isIn 7 = .ok (.imul, 1) := by decide +kernel
theorem dX12_isIn_8 : decode cX12_isIn 8 = .ok (.istore 8, 2) := by decide +kernel
theorem dX12_isIn_10 : decode cX12_isIn 10 = .ok (.sipush 1000, 3) := by decide +kernel
theorem dX12_isIn_13 : decode cX12_isIn 13 = .ok (.iload_n 1, 1) := by decide +kernel
theorem dX12_isIn_14 : decode cX12_isIn 14 = .ok (.imul, 1) := by decide +kernel
theorem dX12_isIn_15 : decode cX12_isIn 15 = .ok (.aload_n 0, 1) := by decide +kernel
theorem dX12_isIn_16 : decode cX12_isIn 16 = .ok (.getfield 35, 3) := by decide +kernel
theorem dX12_isIn_19 : decode cX12_isIn 19 = .ok (.iload_n 1, 1) := by decide +kernel
theorem dX12_isIn_20 : decode cX12_isIn 20 = .ok (.iaload, 1) := by decide +kernel
theorem dX12_isIn_21 : decode cX12_isIn 21 = .ok (.iadd, 1) := by decide +kernel
theorem dX12_isIn_22 : decode cX12_isIn 22 = .ok (.istore 9, 2) := by decide +kernel
theorem dX12_isIn_24 : decode cX12_isIn 24 = .ok (.sipush 1000, 3) := by decide +kernel
theorem dX12_isIn_27 : decode cX12_isIn 27 = .ok (.iload_n 1, 1) := by decide +kernel
theorem dX12_isIn_28 : decode cX12_isIn 28 = .ok (.imul, 1) := by decide +kernel
theorem dX12_isIn_29 : decode cX12_isIn 29 = .ok (.istore 10, 2) := by decide +kernel
theorem dX12_isIn_31 : decode cX12_isIn 31 = .ok (.iload 10, 2) := by decide +kernel
theorem dX12_isIn_33 : decode cX12_isIn 33 = .ok (.iload 9, 2) := by decide +kernel
theorem dX12_isIn_35 : decode cX12_isIn 35 = .ok (.if_icmp .ge 230, 3) := by decide +kernel
theorem dX12_isIn_38 : decode cX12_isIn 38 = .ok (.aload_n 0, 1) := by decide +kernel
theorem dX12_isIn_39 : decode cX12_isIn 39 = .ok (.getfield 44, 3) := by decide +kernel
theorem dX12_isIn_42 : decode cX12_isIn 42 = .ok (.iload 10, 2) := by decide +kernel
theorem dX12_isIn_44 : decode cX12_isIn 44 = .ok (.baload, 1) := by decide +kernel
theorem dX12_isIn_45 : decode cX12_isIn 45 = .ok (.ifCond .eq 8, 3) := by decide +kernel
theorem dX12_isIn_48 : decode cX12_isIn 48 = .ok (.iload 10, 2) := by decide +kernel
theorem dX12_isIn_50 : decode cX12_isIn 50 = .ok (.goto 5, 3) := by decide +kernel
theorem dX12_isIn_53 : decode cX12_isIn 53 = .ok (.iload 8, 2) := by decide +kernel
theorem dX12_isIn_55 : decode cX12_isIn 55 = .ok (.istore 8, 2) := by decide +kernel
theorem dX12_isIn_57 : decode cX12_isIn 57 = .ok (.iload 10, 2) := by decide +kernel
theorem dX12_isIn_59 : decode cX12_isIn 59 = .ok (.iconst 1, 1) := by decide +kernel
theorem dX12_isIn_60 : decode cX12_isIn 60 = .ok (.iadd, 1) := by decide +kernel
theorem dX12_isIn_61 : decode cX12_isIn 61 = .ok (.iload 9, 2) := by decide +kernel
theorem dX12_isIn_63 : decode cX12_isIn 63 = .ok (.if_icmp .eq 15, 3) := by decide +kernel
theorem dX12_isIn_66 : decode cX12_isIn 66 = .ok (.aload_n 0, 1) := by decide +kernel
theorem dX12_isIn_67 : decode cX12_isIn 67 = .ok (.getfield 44, 3) := by decide +kernel
theorem dX12_isIn_70 : decode cX12_isIn 70 = .ok (.iload 10, 2) := by decide +kernel
theorem dX12_isIn_72 : decode cX12_isIn 72 = .ok (.iconst 1, 1) := by decide +kernel
theorem dX12_isIn_73 : decode cX12_isIn 73 = .ok (.iadd, 1) := by decide +kernel
theorem dX12_isIn_74 : decode cX12_isIn 74 = .ok (.baload, 1) := by decide +kernel
theorem dX12_isIn_75 : decode cX12_isIn 75 = .ok (.ifCond .eq 8, 3) := by decide +kernel
theorem dX12_isIn_78 : decode cX12_isIn 78 = .ok (.iload 8, 2) := by decide +kernel
theorem dX12_isIn_80 : decode cX12_isIn 80 = .ok (.goto 7, 3) := by decide +kernel
theorem dX12_isIn_83 : decode cX12_isIn 83 = .ok (.iload 10, 2) := by decide +kernel
theorem dX12_isIn_85 : decode cX12_isIn 85 = .ok (.iconst 1, 1) := by decide +kernel
theorem dX12_isIn_86 : decode cX12_isIn 86 = .ok (.iadd, 1) := by decide +kernel
theorem dX12_isIn_87 : decode cX12_isIn 87 = .ok (.istore 11, 2) := by decide +kernel
theorem dX12_isIn_89 : decode cX12_isIn 89 = .ok (.aload_n 0, 1) := by decide +kernel
theorem dX12_isIn_90 : decode cX12_isIn 90 = .ok (.getfield 41, 3) := by decide +kernel
theorem dX12_isIn_93 : decode cX12_isIn 93 = .ok (.iload 10, 2) := by decide +kernel
theorem dX12_isIn_95 : decode cX12_isIn 95 = .ok (.iaload, 1) := by decide +kernel
theorem dX12_isIn_96 : decode cX12_isIn 96 = .ok (.i2l, 1) := by decide +kernel
theorem dX12_isIn_97 : decode cX12_isIn 97 = .ok (.lload 4, 2) := by decide +kernel
theorem dX12_isIn_99 : decode cX12_isIn 99 = .ok (.lcmp, 1) := by decide +kernel
theorem dX12_isIn_100 : decode cX12_isIn 100 = .ok (.ifCond .gt 7, 3) := by decide +kernel
theorem dX12_isIn_103 : decode cX12_isIn 103 = .ok (.iconst 1, 1) := by decide +kernel
theorem dX12_isIn_104 : decode cX12_isIn 104 = .ok (.goto 4, 3) := by decide +kernel
theorem dX12_isIn_107 : decode cX12_isIn 107 = .ok (.iconst 0, 1) := by decide +kernel
theorem dX12_isIn_108 : decode cX12_isIn 108 = .ok (.istore 12, 2) := by decide +kernel
theorem dX12_isIn_110 : decode cX12_isIn 110 = .ok (.aload_n 0, 1) := by decide +kernel
theorem dX12_isIn_111 : decode cX12_isIn 111 = .ok (.getfield 41, 3) := by decide +kernel
theorem dX12_isIn_114 : decode cX12_isIn 114 = .ok (.iload 11, 2) := by decide +kernel
theorem dX12_isIn_116 : decode cX12_isIn 116 = .ok (.iaload, 1) := by decide +kernel
theorem dX12_isIn_117 : decode cX12_isIn 117 = .ok (.i2l, 1) := by decide +kernel
theorem dX12_isIn_118 : decode cX12_isIn 118 = .ok (.lload 4, 2) := by decide +kernel
theorem dX12_isIn_120 : decode cX12_isIn 120 = .ok (.lcmp, 1) := by decide +kernel
theorem dX12_isIn_121 : decode cX12_isIn 121 = .ok (.ifCond .gt 7, 3) := by decide +kernel
theorem dX12_isIn_124 : decode cX12_isIn 124 = .ok (.iconst 1, 1) := by decide +kernel
theorem dX12_isIn_125 : decode cX12_isIn 125 = .ok (.goto 4, 3) := by decide +kernel
theorem dX12_isIn_128 : decode cX12_isIn 128 = .ok (.iconst 0, 1) := by decide +kernel
theorem dX12_isIn_129 : decode cX12_isIn 129 = .ok (.istore 13, 2) := by decide +kernel
theorem dX12_isIn_131 : decode cX12_isIn 131 = .ok (.iload 12, 2) := by decide +kernel
theorem dX12_isIn_133 : decode cX12_isIn 133 = .ok (.iload 13, 2) := by decide +kernel
theorem dX12_isIn_135 : decode cX12_isIn 135 = .ok (.if_icmp .eq 124, 3) := by decide +kernel
theorem dX12_isIn_138 : decode cX12_isIn 138 = .ok (.lload_n 2, 1) := by decide +kernel
theorem dX12_isIn_139 : decode cX12_isIn 139 = .ok (.aload_n 0, 1) := by decide +kernel
theorem dX12_isIn_140 : decode cX12_isIn 140 = .ok (.getfield 38, 3) := by decide +kernel
theorem dX12_isIn_143 : decode cX12_isIn 143 = .ok (.iload 10, 2) := by decide +kernel
theorem dX12_isIn_145 : decode cX12_isIn 145 = .ok (.iaload, 1) := by decide +kernel
theorem dX12_isIn_146 : decode cX12_isIn 146 = .ok (.i2l, 1) := by decide +kernel
theorem dX12_isIn_147 : decode cX12_isIn 147 = .ok (.lsub, 1) := by decide +kernel
theorem dX12_isIn_148 : decode cX12_isIn 148 = .ok (.aload_n 0, 1) := by decide +kernel
theorem dX12_isIn_149 : decode cX12_isIn 149 = .ok (.getfield 41, 3) := by decide +kernel
theorem dX12_isIn_152 : decode cX12_isIn 152 = .ok (.iload 11, 2) := by decide +kernel
theorem dX12_isIn_154 : decode cX12_isIn 154 = .ok (.iaload, 1) := by decide +kernel
theorem dX12_isIn_155 : decode cX12_isIn 155 = .ok (.i2l, 1) := by decide +kernel
theorem dX12_isIn_156 : decode cX12_isIn 156 = .ok (.aload_n 0, 1) := by decide +kernel
theorem dX12_isIn_157 : decode cX12_isIn 157 = .ok (.getfield 41, 3) := by decide +kernel
theorem dX12_isIn_160 : decode cX12_isIn 160 = .ok (.iload 10, 2) := by decide +kernel
theorem dX12_isIn_162 : decode cX12_isIn 162 = .ok (.iaload, 1) := by decide +kernel
theorem dX12_isIn_163 : decode cX12_isIn 163 = .ok (.i2l, 1) := by decide +kernel
theorem dX12_isIn_164 : decode cX12_isIn 164 = .ok (.lsub, 1) := by decide +kernel
theorem dX12_isIn_165 : decode cX12_isIn 165 = .ok (.lmul, 1) := by decide +kernel
theorem dX12_isIn_166 : decode cX12_isIn 166 = .ok (.lstore 14, 2) := by decide +kernel
theorem dX12_isIn_168 : decode cX12_isIn 168 = .ok (.lload 4, 2) := by decide +kernel
theorem dX12_isIn_170 : decode cX12_isIn 170 = .ok (.aload_n 0, 1) := by decide +kernel
theorem dX12_isIn_171 : decode cX12_isIn 171 = .ok (.getfield 41, 3) := by decide +kernel
theorem dX12_isIn_174 : decode cX12_isIn 174 = .ok (.iload 10, 2) := by decide +kernel
theorem dX12_isIn_176 : decode cX12_isIn 176 = .ok (.iaload, 1) := by decide +kernel
theorem dX12_isIn_177 : decode cX12_isIn 177 = .ok (.i2l, 1) := by decide +kernel
theorem dX12_isIn_178 : decode cX12_isIn 178 = .ok (.lsub, 1) := by decide +kernel
theorem dX12_isIn_179 : decode cX12_isIn 179 = .ok (.aload_n 0, 1) := by decide +kernel
theorem dX12_isIn_180 : decode cX12_isIn 180 = .ok (.getfield 38, 3) := by decide +kernel
theorem dX12_isIn_183 : decode cX12_isIn 183 = .ok (.iload 11, 2) := by decide +kernel
theorem dX12_isIn_185 : decode cX12_isIn 185 = .ok (.iaload, 1) := by decide +kernel
theorem dX12_isIn_186 : decode cX12_isIn 186 = .ok (.i2l, 1) := by decide +kernel
theorem dX12_isIn_187 : decode cX12_isIn 187 = .ok (.aload_n 0, 1) := by decide +kernel
theorem dX12_isIn_188 : decode cX12_isIn 188 = .ok (.getfield 38, 3) := by decide +kernel
theorem dX12_isIn_191 : decode cX12_isIn 191 = .ok (.iload 10, 2) := by decide +kernel
theorem dX12_isIn_193 : decode cX12_isIn 193 = .ok (.iaload, 1) := by decide +kernel
theorem dX12_isIn_194 : decode cX12_isIn 194 = .ok (.i2l, 1) := by decide +kernel
theorem dX12_isIn_195 : decode cX12_isIn 195 = .ok (.lsub, 1) := by decide +kernel
theorem dX12_isIn_196 : decode cX12_isIn 196 = .ok (.lmul, 1) := by decide +kernel
theorem dX12_isIn_197 : decode cX12_isIn 197 = .ok (.lstore 16, 2) := by decide +kernel
theorem dX12_isIn_199 : decode cX12_isIn 199 = .ok (.iload 12, 2) := by decide +kernel
theorem dX12_isIn_201 : decode cX12_isIn 201 = .ok (.ifCond .eq 19, 3) := by decide +kernel
theorem dX12_isIn_204 : decode cX12_isIn 204 = .ok (.lload 14, 2) := by decide +kernel
theorem dX12_isIn_206 : decode cX12_isIn 206 = .ok (.lload 16, 2) := by decide +kernel
theorem dX12_isIn_208 : decode cX12_isIn 208 = .ok (.lcmp, 1) := by decide +kernel
theorem dX12_isIn_209 : decode cX12_isIn 209 = .ok (.ifCond .lt 7, 3) := by decide +kernel
theorem dX12_isIn_212 : decode cX12_isIn 212 = .ok (.iconst 1, 1) := by decide +kernel
theorem dX12_isIn_213 : decode cX12_isIn 213 = .ok (.goto 20, 3) := by decide +kernel
theorem dX12_isIn_216 : decode cX12_isIn 216 = .ok (.iconst 0, 1) := by decide +kernel
theorem dX12_isIn_217 : decode cX12_isIn 217 = .ok (.goto 16, 3) := by decide +kernel
theorem dX12_isIn_220 : decode cX12_isIn 220 = .ok (.lload 14, 2) := by decide +kernel
theorem dX12_isIn_222 : decode cX12_isIn 222 = .ok (.lload 16, 2) := by decide +kernel
theorem dX12_isIn_224 : decode cX12_isIn 224 = .ok (.lcmp, 1) := by decide +kernel
theorem dX12_isIn_225 : decode cX12_isIn 225 = .ok (.ifCond .gt 7, 3) := by decide +kernel
theorem dX12_isIn_228 : decode cX12_isIn 228 = .ok (.iconst 1, 1) := by decide +kernel
theorem dX12_isIn_229 : decode cX12_isIn 229 = .ok (.goto 4, 3) := by decide +kernel
theorem dX12_isIn_232 : decode cX12_isIn 232 = .ok (.iconst 0, 1) := by decide +kernel
theorem dX12_isIn_233 : decode cX12_isIn 233 = .ok (.istore 18, 2) := by decide +kernel
theorem dX12_isIn_235 : decode cX12_isIn 235 = .ok (.iload 7, 2) := by decide +kernel
theorem dX12_isIn_237 : decode cX12_isIn 237 = .ok (.iload 18, 2) := by decide +kernel
theorem dX12_isIn_239 : decode cX12_isIn 239 = .ok (.ifCond .ne 7, 3) := by decide +kernel
theorem dX12_isIn_242 : decode cX12_isIn 242 = .ok (.iconst 0, 1) := by decide +kernel
theorem dX12_isIn_243 : decode cX12_isIn 243 = .ok (.goto 13, 3) := by decide +kernel
theorem dX12_isIn_246 : decode cX12_isIn 246 = .ok (.iload 12, 2) := by decide +kernel
theorem dX12_isIn_248 : decode cX12_isIn 248 = .ok (.ifCond .eq 7, 3) := by decide +kernel
theorem dX12_isIn_251 : decode cX12_isIn 251 = .ok (.iconst 1, 1) := by decide +kernel
theorem dX12_isIn_252 : decode cX12_isIn 252 = .ok (.goto 4, 3) := by decide +kernel
theorem dX12_isIn_255 : decode cX12_isIn 255 = .ok (.iconst (-1), 1) := by decide +kernel
theorem dX12_isIn_256 : decode cX12_isIn 256 = .ok (.iadd, 1) := by decide +kernel
theorem dX12_isIn_257 : decode cX12_isIn 257 = .ok (.istore 7, 2) := by decide +kernel
theorem dX12_isIn_259 : decode cX12_isIn 259 = .ok (.iinc 10 1, 3) := by decide +kernel
theorem dX12_isIn_262 : decode cX12_isIn 262 = .ok (.goto (-231), 3) := by decide +kernel
theorem dX12_isIn_265 : decode cX12_isIn 265 = .ok (.iload 6, 2) := by decide +kernel
theorem dX12_isIn_267 : decode cX12_isIn 267 = .ok (.ifCond .ne 16, 3) := by decide +kernel
theorem dX12_isIn_270 : decode cX12_isIn 270 = .ok (.iload 7, 2) := by decide +kernel
theorem dX12_isIn_272 : decode cX12_isIn 272 = .ok (.ifCond .eq 7, 3) := by decide +kernel
theorem dX12_isIn_275 : decode cX12_isIn 275 = .ok (.iconst 1, 1) := by decide +kernel
theorem dX12_isIn_276 : decode cX12_isIn 276 = .ok (.goto 20, 3) := by decide +kernel
theorem dX12_isIn_279 : decode cX12_isIn 279 = .ok (.iconst 0, 1) := by decide +kernel
theorem dX12_isIn_280 : decode cX12_isIn 280 = .ok (.goto 16, 3) := by decide +kernel
theorem dX12_isIn_283 : decode cX12_isIn 283 = .ok (.iload 7, 2) := by decide +kernel
theorem dX12_isIn_285 : decode cX12_isIn 285 = .ok (.iconst 1, 1) := by decide +kernel
theorem dX12_isIn_286 : decode cX12_isIn 286 = .ok (.iand, 1) := by decide +kernel
theorem dX12_isIn_287 : decode cX12_isIn 287 = .ok (.iconst 1, 1) := by decide +kernel
theorem dX12_isIn_288 : decode cX12_isIn 288 = .ok (.if_icmp .ne 7, 3) := by decide +kernel
theorem dX12_isIn_291 : decode cX12_isIn 291 = .ok (.iconst 1, 1) := by decide +kernel
theorem dX12_isIn_292 : decode cX12_isIn 292 = .ok (.goto 4, 3) := by decide +kernel
theorem dX12_isIn_295 : decode cX12_isIn 295 = .ok (.iconst 0, 1) := by decide +kernel
theorem dX12_isIn_296 : decode cX12_isIn 296 = .ok (.ireturn, 1) := by decide +kernel
abbrev rm_X12_isIn : Room := { frames := 0, cells := 0, slots := 0, locals := 0 }
def w_X12_isIn : List Cond := Cond.code yX12_isIn cX12_isIn 19 (some .boolean) :: uw
set_option maxHeartbeats 4000000 in
set_option maxRecDepth 100000 in
theorem c_X12_isIn (l : Launch) (dC : Nat → ClassId) (dI : Nat → Nat → Nat) (cI cZ cO : ClassId) (tL sz : Nat) (h0 : Nat) (h1 : Nat) (h2 : Nat) (h3 : Nat) (h4 : Nat) (g0_sheet : Nat) (g0_words : Nat) (g0_size : Nat) (g0_told : Nat) (g0_saved : Nat) (g0_saves : Nat) (g0_at : Nat) (g0_begun : Nat) (g0_lines : Nat) (g0_lastX : Nat) (g0_lastY : Nat) (g0_startX : Nat) (g0_startY : Nat) (g0_startPoint : Nat) (g0_both : Nat) (g0_cut : Nat) (v0_wide : Int32) (v0_tall : Int32) (v0_good : Int32) (v0_faultPlace : Int32) (v0_made : Int32) (v0_fills : Int32) (v0_painted : Int32) (v0_other : Int32) (f1 : Nat → Int32) (f2 : Nat → Int32) (f3 : Nat → Int32) (f4 : Nat → Int32) (p1 : Int32) (p2 : Int64) (p3 : Int64) (p4 : Int32) (res : Int32) (hM : m_X12_isIn f1 f2 f3 f4 p1 p2 p3 p4 = some res) : Met l yX12_isIn w_X12_isIn rm_X12_isIn (PCx [.ref h0, .int p1, .long p2, .long p3, .int p4] (dC, dI) [(cI, .int), (cZ, .boolean), (cO, .object "ListPainter$Settings")] sz tL [(h0, .inr (11, [.int v0_wide, .int v0_tall, .ref g0_sheet, .ref g0_words, .ref g0_size, .int v0_good, .int v0_faultPlace, .int v0_made, .int v0_fills, .int v0_painted, .ref g0_told, .ref g0_saved, .ref g0_saves, .ref g0_at, .ref h1, .ref h4, .ref h3, .ref h2, .ref g0_begun, .ref g0_lines, .ref g0_lastX, .ref g0_lastY, .ref g0_startX, .ref g0_startY, .ref g0_startPoint, .ref g0_both, .ref g0_cut, .int v0_other])), (h1, .inl (cI, 2, .inl f1)), (h2, .inl (cZ, 2000, .inl f2)), (h3, .inl (cI, 2000, .inl f3)), (h4, .inl (cI, 2000, .inl f4))]) (QMz res (dC, dI) [(cI, .int), (cZ, .boolean), (cO, .object "ListPainter$Settings")] (va_A [(h0, .inr (11, [.int v0_wide, .int v0_tall, .ref g0_sheet, .ref g0_words, .ref g0_size, .int v0_good, .int v0_faultPlace, .int v0_made, .int v0_fills, .int v0_painted, .ref g0_told, .ref g0_saved, .ref g0_saves, .ref g0_at, .ref h1, .ref h4, .ref h3, .ref h2, .ref g0_begun, .ref g0_lines, .ref g0_lastX, .ref g0_lastY, .ref g0_startX, .ref g0_startY, .ref g0_startPoint, .ref g0_both, .ref g0_cut, .int v0_other])), (h1, .inl (cI, 2, .inl f1)), (h2, .inl (cZ, 2000, .inl f2)), (h3, .inl (cI, 2000, .inl f3)), (h4, .inl (cI, 2000, .inl f4))] sz) [(h0, .inr (11, [.int v0_wide, .int v0_tall, .ref g0_sheet, .ref g0_words, .ref g0_size, .int v0_good, .int v0_faultPlace, .int v0_made, .int v0_fills, .int v0_painted, .ref g0_told, .ref g0_saved, .ref g0_saves, .ref g0_at, .ref h1, .ref h4, .ref h3, .ref h2, .ref g0_begun, .ref g0_lines, .ref g0_lastX, .ref g0_lastY, .ref g0_startX, .ref g0_startY, .ref g0_startPoint, .ref g0_both, .ref g0_cut, .int v0_other])), (h1, .inl (cI, 2, .inl f1)), (h2, .inl (cZ, 2000, .inl f2)), (h3, .inl (cI, 2000, .inl f3)), (h4, .inl (cI, 2000, .inl f4))]) 0 0 (va_A [(h0, .inr (11, [.int v0_wide, .int v0_tall, .ref g0_sheet, .ref g0_words, .ref g0_size, .int v0_good, .int v0_faultPlace, .int v0_made, .int v0_fills, .int v0_painted, .ref g0_told, .ref g0_saved, .ref g0_saves, .ref g0_at, .ref h1, .ref h4, .ref h3, .ref h2, .ref g0_begun, .ref g0_lines, .ref g0_lastX, .ref g0_lastY, .ref g0_startX, .ref g0_startY, .ref g0_startPoint, .ref g0_both, .ref g0_cut, .int v0_other])), (h1, .inl (cI, 2, .inl f1)), (h2, .inl (cZ, 2000, .inl f2)), (h3, .inl (cI, 2000, .inl f3)), (h4, .inl (cI, 2000, .inl f4))] sz) := by
  refine Met.ofW (cc := cX12_isIn) (maxL := 19) (ret := (some .boolean)) (by decide) rfl ?_
  intro p e s m args below meth c s₁ B hml hv
  obtain ⟨rfl, hsz, hP, hK, hD0, hG⟩ := hv
  have hx := B.exec
  have hb := B.bytes
  have hr := B.returns
  have hu : ∀ w ∈ uw, w.before ([.ref h0, .int p1, .long p2, .long p3, .int p4] : List Value).toArray s = true := fun w h => atoms_spec (ws := w_X12_isIn) B.pre w (List.mem_cons_of_mem _ h)
  have hown : s.vm.findClass RX12 = some m.cls := findClass_of_methodNamed B.named
  have hlocks := B.notSynchronized
  subst hsz
  have hD := hD0.self (sz := s.heap.size)
  generalize hAe : va_A [(h0, .inr (11, [.int v0_wide, .int v0_tall, .ref g0_sheet, .ref g0_words, .ref g0_size, .int v0_good, .int v0_faultPlace, .int v0_made, .int v0_fills, .int v0_painted, .ref g0_told, .ref g0_saved, .ref g0_saves, .ref g0_at, .ref h1, .ref h4, .ref h3, .ref h2, .ref g0_begun, .ref g0_lines, .ref g0_lastX, .ref g0_lastY, .ref g0_startX, .ref g0_startY, .ref g0_startPoint, .ref g0_both, .ref g0_cut, .int v0_other])), (h1, .inl (cI, 2, .inl f1)), (h2, .inl (cZ, 2000, .inl f2)), (h3, .inl (cI, 2000, .inl f3)), (h4, .inl (cI, 2000, .inl f4))] s.heap.size = A at hD hG ⊢
  have hA : ∀ q : Nat, s.heap.size ≤ q → A q := fun q h => by rw [← hAe]; exact Or.inr h
  have hS : va_S A s.heap s.heap [] := va_S.rf
  have hP : va_P (dC, dI) vwCl [(h0, .inr (11, [.int v0_wide, .int v0_tall, .ref g0_sheet, .ref g0_words, .ref g0_size, .int v0_good, .int v0_faultPlace, .int v0_made, .int v0_fills, .int v0_painted, .ref g0_told, .ref g0_saved, .ref g0_saves, .ref g0_at, .ref h1, .ref h4, .ref h3, .ref h2, .ref g0_begun, .ref g0_lines, .ref g0_lastX, .ref g0_lastY, .ref g0_startX, .ref g0_startY, .ref g0_startPoint, .ref g0_both, .ref g0_cut, .int v0_other])), (h1, .inl (cI, 2, .inl f1)), (h2, .inl (cZ, 2000, .inl f2)), (h3, .inl (cI, 2000, .inl f3)), (h4, .inl (cI, 2000, .inl f4))] s.heap := hP
  have hl := lv_entry ([.ref h0, .int p1, .long p2, .long p3, .int p4]) (n := 19) (Nat.le_of_ble_eq_true rfl)
  rw [lg_entry_eq]
  generalize (lg_sl ([.ref h0, .int p1, .long p2, .long p3, .int p4]) ++ List.replicate (19 - (lg_sl ([.ref h0, .int p1, .long p2, .long p3, .int p4])).length) Slot.unset).toArray = ls at hl ⊢
  have hl : lv_has ls 19 [(0, .ref h0), (1, .int p1), (2, .long p2), (4, .long p3), (6, .int p4)] := hl
  rw [m_X12_isIn] at hM
  suffices hgo : ∀ (H : Heap) (locs : List Loc), va_P (dC, dI) vwCl [(h0, .inr (11, [.int v0_wide, .int v0_tall, .ref g0_sheet, .ref g0_words, .ref g0_size, .int v0_good, .int v0_faultPlace, .int v0_made, .int v0_fills, .int v0_painted, .ref g0_told, .ref g0_saved, .ref g0_saves, .ref g0_at, .ref h1, .ref h4, .ref h3, .ref h2, .ref g0_begun, .ref g0_lines, .ref g0_lastX, .ref g0_lastY, .ref g0_startX, .ref g0_startY, .ref g0_startPoint, .ref g0_both, .ref g0_cut, .int v0_other])), (h1, .inl (cI, 2, .inl f1)), (h2, .inl (cZ, 2000, .inl f2)), (h3, .inl (cI, 2000, .inl f3)), (h4, .inl (cI, 2000, .inl f4))] H → va_D A [(h0, .inr (11, [.int v0_wide, .int v0_tall, .ref g0_sheet, .ref g0_words, .ref g0_size, .int v0_good, .int v0_faultPlace, .int v0_made, .int v0_fills, .int v0_painted, .ref g0_told, .ref g0_saved, .ref g0_saves, .ref g0_at, .ref h1, .ref h4, .ref h3, .ref h2, .ref g0_begun, .ref g0_lines, .ref g0_lastX, .ref g0_lastY, .ref g0_startX, .ref g0_startY, .ref g0_startPoint, .ref g0_both, .ref g0_cut, .int v0_other])), (h1, .inl (cI, 2, .inl f1)), (h2, .inl (cZ, 2000, .inl f2)), (h3, .inl (cI, 2000, .inl f3)), (h4, .inl (cI, 2000, .inl f4))] → va_S A s.heap H locs → W p l e (headSpec w_X12_isIn rm_X12_isIn).room s m ([.ref h0, .int p1, .long p2, .long p3, .int p4] : List Value).toArray below meth c H locs 0 0 (MQ below (QMz res (dC, dI) [(cI, .int), (cZ, .boolean), (cO, .object "ListPainter$Settings")] A [(h0, .inr (11, [.int v0_wide, .int v0_tall, .ref g0_sheet, .ref g0_words, .ref g0_size, .int v0_good, .int v0_faultPlace, .int v0_made, .int v0_fills, .int v0_painted, .ref g0_told, .ref g0_saved, .ref g0_saves, .ref g0_at, .ref h1, .ref h4, .ref h3, .ref h2, .ref g0_begun, .ref g0_lines, .ref g0_lastX, .ref g0_lastY, .ref g0_startX, .ref g0_startY, .ref g0_startPoint, .ref g0_both, .ref g0_cut, .int v0_other])), (h1, .inl (cI, 2, .inl f1)), (h2, .inl (cZ, 2000, .inl f2)), (h3, .inl (cI, 2000, .inl f3)), (h4, .inl (cI, 2000, .inl f4))]) ([.ref h0, .int p1, .long p2, .long p3, .int p4] : List Value).toArray s 0 0 A) (F0 m 0 ls []) from hgo _ _ hP hD hS
  intro H locs hP hD hS
  refine lv_iconst (v := 0) hx hb dX12_isIn_0 (by decide) ?_
  refine lv_istore (lv' := [(7, .int 0), (0, .ref h0), (1, .int p1), (2, .long p2), (4, .long p3), (6, .int p4)]) hx hb dX12_isIn_1 hl (by decide) rfl (fun ls hl => ?_)
  refine lv_sipush (v := 1000) hx hb dX12_isIn_3 (by decide) ?_
  refine lv_iload_n hx hb dX12_isIn_6 rfl (lv_at hl 2 rfl) ?_
  refine lv_imul hx hb dX12_isIn_7 ?_
  refine lv_topi (fun x_1 ex_1 => ?_)
  have hM := nm_u ex_1 hM
  refine lv_istore (lv' := [(8, .int x_1), (7, .int 0), (0, .ref h0), (1, .int p1), (2, .long p2), (4, .long p3), (6, .int p4)]) hx hb dX12_isIn_8 hl (by decide) rfl (fun ls hl => ?_)
  refine lv_sipush (v := 1000) hx hb dX12_isIn_10 (by decide) ?_
  refine lv_iload_n hx hb dX12_isIn_13 rfl (lv_at hl 3 rfl) ?_
  refine lv_imul hx hb dX12_isIn_14 ?_
  refine lv_aload_n hx hb dX12_isIn_15 rfl (lv_at hl 2 rfl) ?_
  refine va_get (D := (dC, dI)) (ci := 11) (v := .ref h1) (C := RX12) (T := TX12) (N := 28) hx hb hu inX12 hown hK hP 0 rfl rfl 14 (by decide) (hu _ kw_271) (fun _ h9 => h9) rfl dX12_isIn_16 ?_
  refine lv_iload_n hx hb dX12_isIn_19 rfl (lv_at hl 3 rfl) ?_
  obtain ⟨g_2, hM⟩ := gd_u hM
  refine va_iald hx hb hK hP 1 0 rfl rfl (inb_v g_2) dX12_isIn_20 ?_
  refine lv_topi (fun a_3 ea_3 => ?_)
  have hM := nm_u ea_3 hM
  refine lv_iadd hx hb dX12_isIn_21 ?_
  refine lv_topi (fun x_4 ex_4 => ?_)
  have hM := nm_u ex_4 hM
  refine lv_istore (lv' := [(9, .int x_4), (8, .int x_1), (7, .int 0), (0, .ref h0), (1, .int p1), (2, .long p2), (4, .long p3), (6, .int p4)]) hx hb dX12_isIn_22 hl (by decide) rfl (fun ls hl => ?_)
  refine lv_sipush (v := 1000) hx hb dX12_isIn_24 (by decide) ?_
  refine lv_iload_n hx hb dX12_isIn_27 rfl (lv_at hl 4 rfl) ?_
  refine lv_imul hx hb dX12_isIn_28 ?_
  refine lv_topi (fun x_5 ex_5 => ?_)
  have hM := nm_u ex_5 hM
  refine lv_istore (lv' := [(10, .int x_5), (9, .int x_4), (8, .int x_1), (7, .int 0), (0, .ref h0), (1, .int p1), (2, .long p2), (4, .long p3), (6, .int p4)]) hx hb dX12_isIn_29 hl (by decide) rfl (fun ls hl => ?_)
  obtain ⟨K265_7, eK265_7, hM⟩ := jn_u hM
  have hJ265_7 : ∀ (l7_6 : Int32) , ∀ (H : Heap) (locs : List Loc) (ls : Array Slot), va_P (dC, dI) vwCl [(h0, .inr (11, [.int v0_wide, .int v0_tall, .ref g0_sheet, .ref g0_words, .ref g0_size, .int v0_good, .int v0_faultPlace, .int v0_made, .int v0_fills, .int v0_painted, .ref g0_told, .ref g0_saved, .ref g0_saves, .ref g0_at, .ref h1, .ref h4, .ref h3, .ref h2, .ref g0_begun, .ref g0_lines, .ref g0_lastX, .ref g0_lastY, .ref g0_startX, .ref g0_startY, .ref g0_startPoint, .ref g0_both, .ref g0_cut, .int v0_other])), (h1, .inl (cI, 2, .inl f1)), (h2, .inl (cZ, 2000, .inl f2)), (h3, .inl (cI, 2000, .inl f3)), (h4, .inl (cI, 2000, .inl f4))] H → va_D A [(h0, .inr (11, [.int v0_wide, .int v0_tall, .ref g0_sheet, .ref g0_words, .ref g0_size, .int v0_good, .int v0_faultPlace, .int v0_made, .int v0_fills, .int v0_painted, .ref g0_told, .ref g0_saved, .ref g0_saves, .ref g0_at, .ref h1, .ref h4, .ref h3, .ref h2, .ref g0_begun, .ref g0_lines, .ref g0_lastX, .ref g0_lastY, .ref g0_startX, .ref g0_startY, .ref g0_startPoint, .ref g0_both, .ref g0_cut, .int v0_other])), (h1, .inl (cI, 2, .inl f1)), (h2, .inl (cZ, 2000, .inl f2)), (h3, .inl (cI, 2000, .inl f3)), (h4, .inl (cI, 2000, .inl f4))] → va_S A s.heap H locs → lv_has ls 19 [(6, .int p4), (7, .int l7_6)] → K265_7 l7_6 = some res → W p l e (headSpec w_X12_isIn rm_X12_isIn).room s m ([.ref h0, .int p1, .long p2, .long p3, .int p4] : List Value).toArray below meth c H locs 0 0 (MQ below (QMz res (dC, dI) [(cI, .int), (cZ, .boolean), (cO, .object "ListPainter$Settings")] A [(h0, .inr (11, [.int v0_wide, .int v0_tall, .ref g0_sheet, .ref g0_words, .ref g0_size, .int v0_good, .int v0_faultPlace, .int v0_made, .int v0_fills, .int v0_painted, .ref g0_told, .ref g0_saved, .ref g0_saves, .ref g0_at, .ref h1, .ref h4, .ref h3, .ref h2, .ref g0_begun, .ref g0_lines, .ref g0_lastX, .ref g0_lastY, .ref g0_startX, .ref g0_startY, .ref g0_startPoint, .ref g0_both, .ref g0_cut, .int v0_other])), (h1, .inl (cI, 2, .inl f1)), (h2, .inl (cZ, 2000, .inl f2)), (h3, .inl (cI, 2000, .inl f3)), (h4, .inl (cI, 2000, .inl f4))]) ([.ref h0, .int p1, .long p2, .long p3, .int p4] : List Value).toArray s 0 0 A) (F0 m 265 ls []) := by
    intro l7_6 H locs ls hP hD hS hl hM
    have hM := ja1 eK265_7 hM
    refine lv_iload hx hb dX12_isIn_265 (lv_at hl 0 rfl) ?_
    refine lv_if_ne (tgt := 283) hx hb dX12_isIn_267 (by decide) (fun c_8 => ?_) (fun c_8 => ?_)
    · have hM := if_f c_8 hM
      refine lv_iload hx hb dX12_isIn_283 (lv_at hl 1 rfl) ?_
      refine lv_iconst (v := 1) hx hb dX12_isIn_285 (by decide) ?_
      refine lv_iand hx hb dX12_isIn_286 ?_
      refine lv_iconst (v := 1) hx hb dX12_isIn_287 (by decide) ?_
      refine lv_icmp_ne (tgt := 295) hx hb dX12_isIn_288 (by decide) (fun c_9 => ?_) (fun c_9 => ?_)
      · have hM := if_f c_9 hM
        refine lv_iconst (v := 0) hx hb dX12_isIn_295 (by decide) ?_
        have h9 := Option.some.inj hM
        subst h9
        exact W.zret (v := 0) hx hb hr (zb_n (Or.inl rfl)) (fun t ht hW => QMz_mk (Or.inl rfl) (by rw [ht]; exact hP) (va_K.moved hW.alike hK) hD (hS.F ht)) hS.2.2 dX12_isIn_296
      · have hM := if_t c_9 hM
        refine lv_iconst (v := 1) hx hb dX12_isIn_291 (by decide) ?_
        refine lv_goto (tgt := 296) hx hb dX12_isIn_292 (by decide) ?_
        have h9 := Option.some.inj hM
        subst h9
        exact W.zret (v := 1) hx hb hr (zb_n (Or.inr rfl)) (fun t ht hW => QMz_mk (Or.inr rfl) (by rw [ht]; exact hP) (va_K.moved hW.alike hK) hD (hS.F ht)) hS.2.2 dX12_isIn_296
    · have hM := if_t c_8 hM
      refine lv_iload hx hb dX12_isIn_270 (lv_at hl 1 rfl) ?_
      refine lv_if_eq (tgt := 279) hx hb dX12_isIn_272 (by decide) (fun c_10 => ?_) (fun c_10 => ?_)
      · have hM := if_t c_10 hM
        refine lv_iconst (v := 0) hx hb dX12_isIn_279 (by decide) ?_
        refine lv_goto (tgt := 296) hx hb dX12_isIn_280 (by decide) ?_
        have h9 := Option.some.inj hM
        subst h9
        exact W.zret (v := 0) hx hb hr (zb_n (Or.inl rfl)) (fun t ht hW => QMz_mk (Or.inl rfl) (by rw [ht]; exact hP) (va_K.moved hW.alike hK) hD (hS.F ht)) hS.2.2 dX12_isIn_296
      · have hM := if_f c_10 hM
        refine lv_iconst (v := 1) hx hb dX12_isIn_275 (by decide) ?_
        refine lv_goto (tgt := 296) hx hb dX12_isIn_276 (by decide) ?_
        have h9 := Option.some.inj hM
        subst h9
        exact W.zret (v := 1) hx hb hr (zb_n (Or.inr rfl)) (fun t ht hW => QMz_mk (Or.inr rfl) (by rw [ht]; exact hP) (va_K.moved hW.alike hK) hD (hS.F ht)) hS.2.2 dX12_isIn_296
  have hL31_14 : ∀ (n : Nat) (l7_11 : Int32) (l8_12 : Int32) (l10_13 : Int32) , ∀ (H : Heap) (locs : List Loc) (ls : Array Slot), va_P (dC, dI) vwCl [(h0, .inr (11, [.int v0_wide, .int v0_tall, .ref g0_sheet, .ref g0_words, .ref g0_size, .int v0_good, .int v0_faultPlace, .int v0_made, .int v0_fills, .int v0_painted, .ref g0_told, .ref g0_saved, .ref g0_saves, .ref g0_at, .ref h1, .ref h4, .ref h3, .ref h2, .ref g0_begun, .ref g0_lines, .ref g0_lastX, .ref g0_lastY, .ref g0_startX, .ref g0_startY, .ref g0_startPoint, .ref g0_both, .ref g0_cut, .int v0_other])), (h1, .inl (cI, 2, .inl f1)), (h2, .inl (cZ, 2000, .inl f2)), (h3, .inl (cI, 2000, .inl f3)), (h4, .inl (cI, 2000, .inl f4))] H → va_D A [(h0, .inr (11, [.int v0_wide, .int v0_tall, .ref g0_sheet, .ref g0_words, .ref g0_size, .int v0_good, .int v0_faultPlace, .int v0_made, .int v0_fills, .int v0_painted, .ref g0_told, .ref g0_saved, .ref g0_saves, .ref g0_at, .ref h1, .ref h4, .ref h3, .ref h2, .ref g0_begun, .ref g0_lines, .ref g0_lastX, .ref g0_lastY, .ref g0_startX, .ref g0_startY, .ref g0_startPoint, .ref g0_both, .ref g0_cut, .int v0_other])), (h1, .inl (cI, 2, .inl f1)), (h2, .inl (cZ, 2000, .inl f2)), (h3, .inl (cI, 2000, .inl f3)), (h4, .inl (cI, 2000, .inl f4))] → va_S A s.heap H locs → lv_has ls 19 [(0, .ref h0), (2, .long p2), (4, .long p3), (6, .int p4), (7, .int l7_11), (8, .int l8_12), (9, .int x_4), (10, .int l10_13)] → lp_X12_isIn_31 x_4 K265_7 f2 f3 f4 p2 p3 n l7_11 l8_12 l10_13 = some res → W p l e (headSpec w_X12_isIn rm_X12_isIn).room s m ([.ref h0, .int p1, .long p2, .long p3, .int p4] : List Value).toArray below meth c H locs 0 0 (MQ below (QMz res (dC, dI) [(cI, .int), (cZ, .boolean), (cO, .object "ListPainter$Settings")] A [(h0, .inr (11, [.int v0_wide, .int v0_tall, .ref g0_sheet, .ref g0_words, .ref g0_size, .int v0_good, .int v0_faultPlace, .int v0_made, .int v0_fills, .int v0_painted, .ref g0_told, .ref g0_saved, .ref g0_saves, .ref g0_at, .ref h1, .ref h4, .ref h3, .ref h2, .ref g0_begun, .ref g0_lines, .ref g0_lastX, .ref g0_lastY, .ref g0_startX, .ref g0_startY, .ref g0_startPoint, .ref g0_both, .ref g0_cut, .int v0_other])), (h1, .inl (cI, 2, .inl f1)), (h2, .inl (cZ, 2000, .inl f2)), (h3, .inl (cI, 2000, .inl f3)), (h4, .inl (cI, 2000, .inl f4))]) ([.ref h0, .int p1, .long p2, .long p3, .int p4] : List Value).toArray s 0 0 A) (F0 m 31 ls []) := by
    intro n
    induction n with
    | zero =>
      intro l7_11 l8_12 l10_13 H locs ls hP hD hS hl hM
      rw [lp_X12_isIn_31] at hM
      exact lp0 hM
    | succ n31_14 ih31_14 =>
      intro l7_11 l8_12 l10_13 H locs ls hP hD hS hl hM
      rw [lp_X12_isIn_31] at hM
      refine lv_iload hx hb dX12_isIn_31 (lv_at hl 7 rfl) ?_
      refine lv_iload hx hb dX12_isIn_33 (lv_at hl 6 rfl) ?_
      refine lv_icmp_ge (tgt := 265) hx hb dX12_isIn_35 (by decide) (fun c_15 => ?_) (fun c_15 => ?_)
      · have hM := if_t c_15 hM
        exact hJ265_7 l7_11 H locs ls hP hD hS (lv_sub hl [3, 4] rfl) hM
      · have hM := if_f c_15 hM
        refine lv_aload_n hx hb dX12_isIn_38 rfl (lv_at hl 0 rfl) ?_
        refine va_get (D := (dC, dI)) (ci := 11) (v := .ref h2) (C := RX12) (T := TX12) (N := 28) hx hb hu inX12 hown hK hP 0 rfl rfl 17 (by decide) (hu _ kw_300) (fun _ h9 => h9) rfl dX12_isIn_39 ?_
        refine lv_iload hx hb dX12_isIn_42 (lv_at hl 7 rfl) ?_
        obtain ⟨g_16, hM⟩ := gd_u hM
        refine va_zald hx hb hK hP 2 1 rfl rfl (inb_v g_16) dX12_isIn_44 ?_
        refine lv_topi (fun a_17 ea_17 => ?_)
        have hM := nm_u ea_17 hM
        obtain ⟨K55_19, eK55_19, hM⟩ := jn_u hM
        have hJ55_19 : ∀ (s0_18 : Int32) , ∀ (H : Heap) (locs : List Loc) (ls : Array Slot), va_P (dC, dI) vwCl [(h0, .inr (11, [.int v0_wide, .int v0_tall, .ref g0_sheet, .ref g0_words, .ref g0_size, .int v0_good, .int v0_faultPlace, .int v0_made, .int v0_fills, .int v0_painted, .ref g0_told, .ref g0_saved, .ref g0_saves, .ref g0_at, .ref h1, .ref h4, .ref h3, .ref h2, .ref g0_begun, .ref g0_lines, .ref g0_lastX, .ref g0_lastY, .ref g0_startX, .ref g0_startY, .ref g0_startPoint, .ref g0_both, .ref g0_cut, .int v0_other])), (h1, .inl (cI, 2, .inl f1)), (h2, .inl (cZ, 2000, .inl f2)), (h3, .inl (cI, 2000, .inl f3)), (h4, .inl (cI, 2000, .inl f4))] H → va_D A [(h0, .inr (11, [.int v0_wide, .int v0_tall, .ref g0_sheet, .ref g0_words, .ref g0_size, .int v0_good, .int v0_faultPlace, .int v0_made, .int v0_fills, .int v0_painted, .ref g0_told, .ref g0_saved, .ref g0_saves, .ref g0_at, .ref h1, .ref h4, .ref h3, .ref h2, .ref g0_begun, .ref g0_lines, .ref g0_lastX, .ref g0_lastY, .ref g0_startX, .ref g0_startY, .ref g0_startPoint, .ref g0_both, .ref g0_cut, .int v0_other])), (h1, .inl (cI, 2, .inl f1)), (h2, .inl (cZ, 2000, .inl f2)), (h3, .inl (cI, 2000, .inl f3)), (h4, .inl (cI, 2000, .inl f4))] → va_S A s.heap H locs → lv_has ls 19 [(0, .ref h0), (2, .long p2), (4, .long p3), (6, .int p4), (7, .int l7_11), (9, .int x_4), (10, .int l10_13)] → K55_19 s0_18 = some res → W p l e (headSpec w_X12_isIn rm_X12_isIn).room s m ([.ref h0, .int p1, .long p2, .long p3, .int p4] : List Value).toArray below meth c H locs 0 0 (MQ below (QMz res (dC, dI) [(cI, .int), (cZ, .boolean), (cO, .object "ListPainter$Settings")] A [(h0, .inr (11, [.int v0_wide, .int v0_tall, .ref g0_sheet, .ref g0_words, .ref g0_size, .int v0_good, .int v0_faultPlace, .int v0_made, .int v0_fills, .int v0_painted, .ref g0_told, .ref g0_saved, .ref g0_saves, .ref g0_at, .ref h1, .ref h4, .ref h3, .ref h2, .ref g0_begun, .ref g0_lines, .ref g0_lastX, .ref g0_lastY, .ref g0_startX, .ref g0_startY, .ref g0_startPoint, .ref g0_both, .ref g0_cut, .int v0_other])), (h1, .inl (cI, 2, .inl f1)), (h2, .inl (cZ, 2000, .inl f2)), (h3, .inl (cI, 2000, .inl f3)), (h4, .inl (cI, 2000, .inl f4))]) ([.ref h0, .int p1, .long p2, .long p3, .int p4] : List Value).toArray s 0 0 A) (F0 m 55 ls [.int s0_18]) := by
          intro s0_18 H locs ls hP hD hS hl hM
          have hM := ja1 eK55_19 hM
          refine lv_istore (lv' := [(8, .int s0_18), (0, .ref h0), (2, .long p2), (4, .long p3), (6, .int p4), (7, .int l7_11), (9, .int x_4), (10, .int l10_13)]) hx hb dX12_isIn_55 hl (by decide) rfl (fun ls hl => ?_)
          refine lv_iload hx hb dX12_isIn_57 (lv_at hl 7 rfl) ?_
          refine lv_iconst (v := 1) hx hb dX12_isIn_59 (by decide) ?_
          refine lv_iadd hx hb dX12_isIn_60 ?_
          refine lv_iload hx hb dX12_isIn_61 (lv_at hl 6 rfl) ?_
          obtain ⟨K87_21, eK87_21, hM⟩ := jn_u hM
          have hJ87_21 : ∀ (s0_20 : Int32) , ∀ (H : Heap) (locs : List Loc) (ls : Array Slot), va_P (dC, dI) vwCl [(h0, .inr (11, [.int v0_wide, .int v0_tall, .ref g0_sheet, .ref g0_words, .ref g0_size, .int v0_good, .int v0_faultPlace, .int v0_made, .int v0_fills, .int v0_painted, .ref g0_told, .ref g0_saved, .ref g0_saves, .ref g0_at, .ref h1, .ref h4, .ref h3, .ref h2, .ref g0_begun, .ref g0_lines, .ref g0_lastX, .ref g0_lastY, .ref g0_startX, .ref g0_startY, .ref g0_startPoint, .ref g0_both, .ref g0_cut, .int v0_other])), (h1, .inl (cI, 2, .inl f1)), (h2, .inl (cZ, 2000, .inl f2)), (h3, .inl (cI, 2000, .inl f3)), (h4, .inl (cI, 2000, .inl f4))] H → va_D A [(h0, .inr (11, [.int v0_wide, .int v0_tall, .ref g0_sheet, .ref g0_words, .ref g0_size, .int v0_good, .int v0_faultPlace, .int v0_made, .int v0_fills, .int v0_painted, .ref g0_told, .ref g0_saved, .ref g0_saves, .ref g0_at, .ref h1, .ref h4, .ref h3, .ref h2, .ref g0_begun, .ref g0_lines, .ref g0_lastX, .ref g0_lastY, .ref g0_startX, .ref g0_startY, .ref g0_startPoint, .ref g0_both, .ref g0_cut, .int v0_other])), (h1, .inl (cI, 2, .inl f1)), (h2, .inl (cZ, 2000, .inl f2)), (h3, .inl (cI, 2000, .inl f3)), (h4, .inl (cI, 2000, .inl f4))] → va_S A s.heap H locs → lv_has ls 19 [(0, .ref h0), (2, .long p2), (4, .long p3), (6, .int p4), (7, .int l7_11), (8, .int s0_18), (9, .int x_4), (10, .int l10_13)] → K87_21 s0_20 = some res → W p l e (headSpec w_X12_isIn rm_X12_isIn).room s m ([.ref h0, .int p1, .long p2, .long p3, .int p4] : List Value).toArray below meth c H locs 0 0 (MQ below (QMz res (dC, dI) [(cI, .int), (cZ, .boolean), (cO, .object "ListPainter$Settings")] A [(h0, .inr (11, [.int v0_wide, .int v0_tall, .ref g0_sheet, .ref g0_words, .ref g0_size, .int v0_good, .int v0_faultPlace, .int v0_made, .int v0_fills, .int v0_painted, .ref g0_told, .ref g0_saved, .ref g0_saves, .ref g0_at, .ref h1, .ref h4, .ref h3, .ref h2, .ref g0_begun, .ref g0_lines, .ref g0_lastX, .ref g0_lastY, .ref g0_startX, .ref g0_startY, .ref g0_startPoint, .ref g0_both, .ref g0_cut, .int v0_other])), (h1, .inl (cI, 2, .inl f1)), (h2, .inl (cZ, 2000, .inl f2)), (h3, .inl (cI, 2000, .inl f3)), (h4, .inl (cI, 2000, .inl f4))]) ([.ref h0, .int p1, .long p2, .long p3, .int p4] : List Value).toArray s 0 0 A) (F0 m 87 ls [.int s0_20]) := by
            intro s0_20 H locs ls hP hD hS hl hM
            have hM := ja1 eK87_21 hM
            refine lv_istore (lv' := [(11, .int s0_20), (0, .ref h0), (2, .long p2), (4, .long p3), (6, .int p4), (7, .int l7_11), (8, .int s0_18), (9, .int x_4), (10, .int l10_13)]) hx hb dX12_isIn_87 hl (by decide) rfl (fun ls hl => ?_)
            refine lv_aload_n hx hb dX12_isIn_89 rfl (lv_at hl 1 rfl) ?_
            refine va_get (D := (dC, dI)) (ci := 11) (v := .ref h3) (C := RX12) (T := TX12) (N := 28) hx hb hu inX12 hown hK hP 0 rfl rfl 16 (by decide) (hu _ kw_299) (fun _ h9 => h9) rfl dX12_isIn_90 ?_
            refine lv_iload hx hb dX12_isIn_93 (lv_at hl 8 rfl) ?_
            obtain ⟨g_22, hM⟩ := gd_u hM
            refine va_iald hx hb hK hP 3 0 rfl rfl (inb_v g_22) dX12_isIn_95 ?_
            refine lv_topi (fun a_23 ea_23 => ?_)
            have hM := nm_u ea_23 hM
            refine lv_i2l (v := ((a_23 : Int32).toInt64)) hx hb dX12_isIn_96 rfl ?_
            refine lv_lload hx hb dX12_isIn_97 (lv_at hl 3 rfl) ?_
            refine W.lcmp hx hb dX12_isIn_99 ?_
            obtain ⟨K108_25, eK108_25, hM⟩ := jn_u hM
            have hJ108_25 : ∀ (s0_24 : Int32) , zb s0_24 → ∀ (H : Heap) (locs : List Loc) (ls : Array Slot), va_P (dC, dI) vwCl [(h0, .inr (11, [.int v0_wide, .int v0_tall, .ref g0_sheet, .ref g0_words, .ref g0_size, .int v0_good, .int v0_faultPlace, .int v0_made, .int v0_fills, .int v0_painted, .ref g0_told, .ref g0_saved, .ref g0_saves, .ref g0_at, .ref h1, .ref h4, .ref h3, .ref h2, .ref g0_begun, .ref g0_lines, .ref g0_lastX, .ref g0_lastY, .ref g0_startX, .ref g0_startY, .ref g0_startPoint, .ref g0_both, .ref g0_cut, .int v0_other])), (h1, .inl (cI, 2, .inl f1)), (h2, .inl (cZ, 2000, .inl f2)), (h3, .inl (cI, 2000, .inl f3)), (h4, .inl (cI, 2000, .inl f4))] H → va_D A [(h0, .inr (11, [.int v0_wide, .int v0_tall, .ref g0_sheet, .ref g0_words, .ref g0_size, .int v0_good, .int v0_faultPlace, .int v0_made, .int v0_fills, .int v0_painted, .ref g0_told, .ref g0_saved, .ref g0_saves, .ref g0_at, .ref h1, .ref h4, .ref h3, .ref h2, .ref g0_begun, .ref g0_lines, .ref g0_lastX, .ref g0_lastY, .ref g0_startX, .ref g0_startY, .ref g0_startPoint, .ref g0_both, .ref g0_cut, .int v0_other])), (h1, .inl (cI, 2, .inl f1)), (h2, .inl (cZ, 2000, .inl f2)), (h3, .inl (cI, 2000, .inl f3)), (h4, .inl (cI, 2000, .inl f4))] → va_S A s.heap H locs → lv_has ls 19 [(0, .ref h0), (2, .long p2), (4, .long p3), (6, .int p4), (7, .int l7_11), (8, .int s0_18), (9, .int x_4), (10, .int l10_13), (11, .int s0_20)] → K108_25 s0_24 = some res → W p l e (headSpec w_X12_isIn rm_X12_isIn).room s m ([.ref h0, .int p1, .long p2, .long p3, .int p4] : List Value).toArray below meth c H locs 0 0 (MQ below (QMz res (dC, dI) [(cI, .int), (cZ, .boolean), (cO, .object "ListPainter$Settings")] A [(h0, .inr (11, [.int v0_wide, .int v0_tall, .ref g0_sheet, .ref g0_words, .ref g0_size, .int v0_good, .int v0_faultPlace, .int v0_made, .int v0_fills, .int v0_painted, .ref g0_told, .ref g0_saved, .ref g0_saves, .ref g0_at, .ref h1, .ref h4, .ref h3, .ref h2, .ref g0_begun, .ref g0_lines, .ref g0_lastX, .ref g0_lastY, .ref g0_startX, .ref g0_startY, .ref g0_startPoint, .ref g0_both, .ref g0_cut, .int v0_other])), (h1, .inl (cI, 2, .inl f1)), (h2, .inl (cZ, 2000, .inl f2)), (h3, .inl (cI, 2000, .inl f3)), (h4, .inl (cI, 2000, .inl f4))]) ([.ref h0, .int p1, .long p2, .long p3, .int p4] : List Value).toArray s 0 0 A) (F0 m 108 ls [.int s0_24]) := by
              intro s0_24 hz_s0_24 H locs ls hP hD hS hl hM
              have hM := ja1 eK108_25 hM
              refine lv_istore (lv' := [(12, .int s0_24), (0, .ref h0), (2, .long p2), (4, .long p3), (6, .int p4), (7, .int l7_11), (8, .int s0_18), (9, .int x_4), (10, .int l10_13), (11, .int s0_20)]) hx hb dX12_isIn_108 hl (by decide) rfl (fun ls hl => ?_)
              refine lv_aload_n hx hb dX12_isIn_110 rfl (lv_at hl 1 rfl) ?_
              refine va_get (D := (dC, dI)) (ci := 11) (v := .ref h3) (C := RX12) (T := TX12) (N := 28) hx hb hu inX12 hown hK hP 0 rfl rfl 16 (by decide) (hu _ kw_299) (fun _ h9 => h9) rfl dX12_isIn_111 ?_
              refine lv_iload hx hb dX12_isIn_114 (lv_at hl 9 rfl) ?_
              obtain ⟨g_26, hM⟩ := gd_u hM
              refine va_iald hx hb hK hP 3 0 rfl rfl (inb_v g_26) dX12_isIn_116 ?_
              refine lv_topi (fun a_27 ea_27 => ?_)
              have hM := nm_u ea_27 hM
              refine lv_i2l (v := ((a_27 : Int32).toInt64)) hx hb dX12_isIn_117 rfl ?_
              refine lv_lload hx hb dX12_isIn_118 (lv_at hl 3 rfl) ?_
              refine W.lcmp hx hb dX12_isIn_120 ?_
              obtain ⟨K129_29, eK129_29, hM⟩ := jn_u hM
              have hJ129_29 : ∀ (s0_28 : Int32) , zb s0_28 → ∀ (H : Heap) (locs : List Loc) (ls : Array Slot), va_P (dC, dI) vwCl [(h0, .inr (11, [.int v0_wide, .int v0_tall, .ref g0_sheet, .ref g0_words, .ref g0_size, .int v0_good, .int v0_faultPlace, .int v0_made, .int v0_fills, .int v0_painted, .ref g0_told, .ref g0_saved, .ref g0_saves, .ref g0_at, .ref h1, .ref h4, .ref h3, .ref h2, .ref g0_begun, .ref g0_lines, .ref g0_lastX, .ref g0_lastY, .ref g0_startX, .ref g0_startY, .ref g0_startPoint, .ref g0_both, .ref g0_cut, .int v0_other])), (h1, .inl (cI, 2, .inl f1)), (h2, .inl (cZ, 2000, .inl f2)), (h3, .inl (cI, 2000, .inl f3)), (h4, .inl (cI, 2000, .inl f4))] H → va_D A [(h0, .inr (11, [.int v0_wide, .int v0_tall, .ref g0_sheet, .ref g0_words, .ref g0_size, .int v0_good, .int v0_faultPlace, .int v0_made, .int v0_fills, .int v0_painted, .ref g0_told, .ref g0_saved, .ref g0_saves, .ref g0_at, .ref h1, .ref h4, .ref h3, .ref h2, .ref g0_begun, .ref g0_lines, .ref g0_lastX, .ref g0_lastY, .ref g0_startX, .ref g0_startY, .ref g0_startPoint, .ref g0_both, .ref g0_cut, .int v0_other])), (h1, .inl (cI, 2, .inl f1)), (h2, .inl (cZ, 2000, .inl f2)), (h3, .inl (cI, 2000, .inl f3)), (h4, .inl (cI, 2000, .inl f4))] → va_S A s.heap H locs → lv_has ls 19 [(0, .ref h0), (2, .long p2), (4, .long p3), (6, .int p4), (7, .int l7_11), (8, .int s0_18), (9, .int x_4), (10, .int l10_13), (11, .int s0_20), (12, .int s0_24)] → K129_29 s0_28 = some res → W p l e (headSpec w_X12_isIn rm_X12_isIn).room s m ([.ref h0, .int p1, .long p2, .long p3, .int p4] : List Value).toArray below meth c H locs 0 0 (MQ below (QMz res (dC, dI) [(cI, .int), (cZ, .boolean), (cO, .object "ListPainter$Settings")] A [(h0, .inr (11, [.int v0_wide, .int v0_tall, .ref g0_sheet, .ref g0_words, .ref g0_size, .int v0_good, .int v0_faultPlace, .int v0_made, .int v0_fills, .int v0_painted, .ref g0_told, .ref g0_saved, .ref g0_saves, .ref g0_at, .ref h1, .ref h4, .ref h3, .ref h2, .ref g0_begun, .ref g0_lines, .ref g0_lastX, .ref g0_lastY, .ref g0_startX, .ref g0_startY, .ref g0_startPoint, .ref g0_both, .ref g0_cut, .int v0_other])), (h1, .inl (cI, 2, .inl f1)), (h2, .inl (cZ, 2000, .inl f2)), (h3, .inl (cI, 2000, .inl f3)), (h4, .inl (cI, 2000, .inl f4))]) ([.ref h0, .int p1, .long p2, .long p3, .int p4] : List Value).toArray s 0 0 A) (F0 m 129 ls [.int s0_28]) := by
                intro s0_28 hz_s0_28 H locs ls hP hD hS hl hM
                have hM := ja1 eK129_29 hM
                refine lv_istore (lv' := [(13, .int s0_28), (0, .ref h0), (2, .long p2), (4, .long p3), (6, .int p4), (7, .int l7_11), (8, .int s0_18), (9, .int x_4), (10, .int l10_13), (11, .int s0_20), (12, .int s0_24)]) hx hb dX12_isIn_129 hl (by decide) rfl (fun ls hl => ?_)
                refine lv_iload hx hb dX12_isIn_131 (lv_at hl 10 rfl) ?_
                refine lv_iload hx hb dX12_isIn_133 (lv_at hl 0 rfl) ?_
                obtain ⟨K259_31, eK259_31, hM⟩ := jn_u hM
                have hJ259_31 : ∀ (l7_30 : Int32) , ∀ (H : Heap) (locs : List Loc) (ls : Array Slot), va_P (dC, dI) vwCl [(h0, .inr (11, [.int v0_wide, .int v0_tall, .ref g0_sheet, .ref g0_words, .ref g0_size, .int v0_good, .int v0_faultPlace, .int v0_made, .int v0_fills, .int v0_painted, .ref g0_told, .ref g0_saved, .ref g0_saves, .ref g0_at, .ref h1, .ref h4, .ref h3, .ref h2, .ref g0_begun, .ref g0_lines, .ref g0_lastX, .ref g0_lastY, .ref g0_startX, .ref g0_startY, .ref g0_startPoint, .ref g0_both, .ref g0_cut, .int v0_other])), (h1, .inl (cI, 2, .inl f1)), (h2, .inl (cZ, 2000, .inl f2)), (h3, .inl (cI, 2000, .inl f3)), (h4, .inl (cI, 2000, .inl f4))] H → va_D A [(h0, .inr (11, [.int v0_wide, .int v0_tall, .ref g0_sheet, .ref g0_words, .ref g0_size, .int v0_good, .int v0_faultPlace, .int v0_made, .int v0_fills, .int v0_painted, .ref g0_told, .ref g0_saved, .ref g0_saves, .ref g0_at, .ref h1, .ref h4, .ref h3, .ref h2, .ref g0_begun, .ref g0_lines, .ref g0_lastX, .ref g0_lastY, .ref g0_startX, .ref g0_startY, .ref g0_startPoint, .ref g0_both, .ref g0_cut, .int v0_other])), (h1, .inl (cI, 2, .inl f1)), (h2, .inl (cZ, 2000, .inl f2)), (h3, .inl (cI, 2000, .inl f3)), (h4, .inl (cI, 2000, .inl f4))] → va_S A s.heap H locs → lv_has ls 19 [(0, .ref h0), (2, .long p2), (4, .long p3), (6, .int p4), (7, .int l7_30), (8, .int s0_18), (9, .int x_4), (10, .int l10_13)] → K259_31 l7_30 = some res → W p l e (headSpec w_X12_isIn rm_X12_isIn).room s m ([.ref h0, .int p1, .long p2, .long p3, .int p4] : List Value).toArray below meth c H locs 0 0 (MQ below (QMz res (dC, dI) [(cI, .int), (cZ, .boolean), (cO, .object "ListPainter$Settings")] A [(h0, .inr (11, [.int v0_wide, .int v0_tall, .ref g0_sheet, .ref g0_words, .ref g0_size, .int v0_good, .int v0_faultPlace, .int v0_made, .int v0_fills, .int v0_painted, .ref g0_told, .ref g0_saved, .ref g0_saves, .ref g0_at, .ref h1, .ref h4, .ref h3, .ref h2, .ref g0_begun, .ref g0_lines, .ref g0_lastX, .ref g0_lastY, .ref g0_startX, .ref g0_startY, .ref g0_startPoint, .ref g0_both, .ref g0_cut, .int v0_other])), (h1, .inl (cI, 2, .inl f1)), (h2, .inl (cZ, 2000, .inl f2)), (h3, .inl (cI, 2000, .inl f3)), (h4, .inl (cI, 2000, .inl f4))]) ([.ref h0, .int p1, .long p2, .long p3, .int p4] : List Value).toArray s 0 0 A) (F0 m 259 ls []) := by
                  intro l7_30 H locs ls hP hD hS hl hM
                  have hM := ja1 eK259_31 hM
                  obtain ⟨x_32, ex_32⟩ : ∃ y : Int32, y = l10_13 + 1 := ⟨_, rfl⟩
                  have hM := nm_u ex_32 hM
                  refine lv_iinc (v := x_32) (lv' := [(10, .int x_32), (0, .ref h0), (2, .long p2), (4, .long p3), (6, .int p4), (7, .int l7_30), (8, .int s0_18), (9, .int x_4)]) hx hb dX12_isIn_259 hl (k := 7) rfl (by rw [ex_32]; rfl) (by decide) rfl (fun ls hl => ?_)
                  refine lv_goto (tgt := 31) hx hb dX12_isIn_262 (by decide) ?_
                  exact ih31_14 l7_30 s0_18 x_32 H locs ls hP hD hS (lv_sub hl [1, 2, 3, 4, 5, 6, 7, 0] rfl) hM
                refine lv_icmp_eq (tgt := 259) hx hb dX12_isIn_135 (by decide) (fun c_33 => ?_) (fun c_33 => ?_)
                · have hM := if_t c_33 hM
                  exact hJ259_31 l7_11 H locs ls hP hD hS (lv_sub hl [1, 2, 3, 4, 5, 6, 7, 8] rfl) hM
                · have hM := if_f c_33 hM
                  refine lv_lload_n hx hb dX12_isIn_138 rfl (lv_at hl 2 rfl) ?_
                  refine lv_aload_n hx hb dX12_isIn_139 rfl (lv_at hl 1 rfl) ?_
                  refine va_get (D := (dC, dI)) (ci := 11) (v := .ref h4) (C := RX12) (T := TX12) (N := 28) hx hb hu inX12 hown hK hP 0 rfl rfl 15 (by decide) (hu _ kw_292) (fun _ h9 => h9) rfl dX12_isIn_140 ?_
                  refine lv_iload hx hb dX12_isIn_143 (lv_at hl 8 rfl) ?_
                  obtain ⟨g_34, hM⟩ := gd_u hM
                  refine va_iald hx hb hK hP 4 0 rfl rfl (inb_v g_34) dX12_isIn_145 ?_
                  refine lv_topi (fun a_35 ea_35 => ?_)
                  have hM := nm_u ea_35 hM
                  refine lv_i2l (v := ((a_35 : Int32).toInt64)) hx hb dX12_isIn_146 rfl ?_
                  refine lv_lsub hx hb dX12_isIn_147 ?_
                  refine lv_aload_n hx hb dX12_isIn_148 rfl (lv_at hl 1 rfl) ?_
                  refine va_get (D := (dC, dI)) (ci := 11) (v := .ref h3) (C := RX12) (T := TX12) (N := 28) hx hb hu inX12 hown hK hP 0 rfl rfl 16 (by decide) (hu _ kw_299) (fun _ h9 => h9) rfl dX12_isIn_149 ?_
                  refine lv_iload hx hb dX12_isIn_152 (lv_at hl 9 rfl) ?_
                  obtain ⟨g_36, hM⟩ := gd_u hM
                  refine va_iald hx hb hK hP 3 0 rfl rfl (inb_v g_36) dX12_isIn_154 ?_
                  refine lv_topi (fun a_37 ea_37 => ?_)
                  have hM := nm_u ea_37 hM
                  refine lv_i2l (v := ((a_37 : Int32).toInt64)) hx hb dX12_isIn_155 rfl ?_
                  refine lv_aload_n hx hb dX12_isIn_156 rfl (lv_at hl 1 rfl) ?_
                  refine va_get (D := (dC, dI)) (ci := 11) (v := .ref h3) (C := RX12) (T := TX12) (N := 28) hx hb hu inX12 hown hK hP 0 rfl rfl 16 (by decide) (hu _ kw_299) (fun _ h9 => h9) rfl dX12_isIn_157 ?_
                  refine lv_iload hx hb dX12_isIn_160 (lv_at hl 8 rfl) ?_
                  obtain ⟨g_38, hM⟩ := gd_u hM
                  refine va_iald hx hb hK hP 3 0 rfl rfl (inb_v g_38) dX12_isIn_162 ?_
                  refine lv_topi (fun a_39 ea_39 => ?_)
                  have hM := nm_u ea_39 hM
                  refine lv_i2l (v := ((a_39 : Int32).toInt64)) hx hb dX12_isIn_163 rfl ?_
                  refine lv_lsub hx hb dX12_isIn_164 ?_
                  refine lv_lmul hx hb dX12_isIn_165 ?_
                  refine lv_topl (fun x_40 ex_40 => ?_)
                  have hM := nm_u ex_40 hM
                  refine lv_lstore (lv' := [(14, .long x_40), (13, .int s0_28), (0, .ref h0), (2, .long p2), (4, .long p3), (6, .int p4), (7, .int l7_11), (8, .int s0_18), (9, .int x_4), (10, .int l10_13), (11, .int s0_20), (12, .int s0_24)]) hx hb dX12_isIn_166 hl (by decide) rfl (fun ls hl => ?_)
                  refine lv_lload hx hb dX12_isIn_168 (lv_at hl 4 rfl) ?_
                  refine lv_aload_n hx hb dX12_isIn_170 rfl (lv_at hl 2 rfl) ?_
                  refine va_get (D := (dC, dI)) (ci := 11) (v := .ref h3) (C := RX12) (T := TX12) (N := 28) hx hb hu inX12 hown hK hP 0 rfl rfl 16 (by decide) (hu _ kw_299) (fun _ h9 => h9) rfl dX12_isIn_171 ?_
                  refine lv_iload hx hb dX12_isIn_174 (lv_at hl 9 rfl) ?_
                  obtain ⟨g_41, hM⟩ := gd_u hM
                  refine va_iald hx hb hK hP 3 0 rfl rfl (inb_v g_41) dX12_isIn_176 ?_
                  refine lv_topi (fun a_42 ea_42 => ?_)
                  have hM := nm_u ea_42 hM
                  refine lv_i2l (v := ((a_42 : Int32).toInt64)) hx hb dX12_isIn_177 rfl ?_
                  refine lv_lsub hx hb dX12_isIn_178 ?_
                  refine lv_aload_n hx hb dX12_isIn_179 rfl (lv_at hl 2 rfl) ?_
                  refine va_get (D := (dC, dI)) (ci := 11) (v := .ref h4) (C := RX12) (T := TX12) (N := 28) hx hb hu inX12 hown hK hP 0 rfl rfl 15 (by decide) (hu _ kw_292) (fun _ h9 => h9) rfl dX12_isIn_180 ?_
                  refine lv_iload hx hb dX12_isIn_183 (lv_at hl 10 rfl) ?_
                  obtain ⟨g_43, hM⟩ := gd_u hM
                  refine va_iald hx hb hK hP 4 0 rfl rfl (inb_v g_43) dX12_isIn_185 ?_
                  refine lv_topi (fun a_44 ea_44 => ?_)
                  have hM := nm_u ea_44 hM
                  refine lv_i2l (v := ((a_44 : Int32).toInt64)) hx hb dX12_isIn_186 rfl ?_
                  refine lv_aload_n hx hb dX12_isIn_187 rfl (lv_at hl 2 rfl) ?_
                  refine va_get (D := (dC, dI)) (ci := 11) (v := .ref h4) (C := RX12) (T := TX12) (N := 28) hx hb hu inX12 hown hK hP 0 rfl rfl 15 (by decide) (hu _ kw_292) (fun _ h9 => h9) rfl dX12_isIn_188 ?_
                  refine lv_iload hx hb dX12_isIn_191 (lv_at hl 9 rfl) ?_
                  obtain ⟨g_45, hM⟩ := gd_u hM
                  refine va_iald hx hb hK hP 4 0 rfl rfl (inb_v g_45) dX12_isIn_193 ?_
                  refine lv_topi (fun a_46 ea_46 => ?_)
                  have hM := nm_u ea_46 hM
                  refine lv_i2l (v := ((a_46 : Int32).toInt64)) hx hb dX12_isIn_194 rfl ?_
                  refine lv_lsub hx hb dX12_isIn_195 ?_
                  refine lv_lmul hx hb dX12_isIn_196 ?_
                  refine lv_topl (fun x_47 ex_47 => ?_)
                  have hM := nm_u ex_47 hM
                  refine lv_lstore (lv' := [(16, .long x_47), (14, .long x_40), (13, .int s0_28), (0, .ref h0), (2, .long p2), (4, .long p3), (6, .int p4), (7, .int l7_11), (8, .int s0_18), (9, .int x_4), (10, .int l10_13), (11, .int s0_20), (12, .int s0_24)]) hx hb dX12_isIn_197 hl (by decide) rfl (fun ls hl => ?_)
                  refine lv_iload hx hb dX12_isIn_199 (lv_at hl 12 rfl) ?_
                  obtain ⟨K233_49, eK233_49, hM⟩ := jn_u hM
                  have hJ233_49 : ∀ (s0_48 : Int32) , zb s0_48 → ∀ (H : Heap) (locs : List Loc) (ls : Array Slot), va_P (dC, dI) vwCl [(h0, .inr (11, [.int v0_wide, .int v0_tall, .ref g0_sheet, .ref g0_words, .ref g0_size, .int v0_good, .int v0_faultPlace, .int v0_made, .int v0_fills, .int v0_painted, .ref g0_told, .ref g0_saved, .ref g0_saves, .ref g0_at, .ref h1, .ref h4, .ref h3, .ref h2, .ref g0_begun, .ref g0_lines, .ref g0_lastX, .ref g0_lastY, .ref g0_startX, .ref g0_startY, .ref g0_startPoint, .ref g0_both, .ref g0_cut, .int v0_other])), (h1, .inl (cI, 2, .inl f1)), (h2, .inl (cZ, 2000, .inl f2)), (h3, .inl (cI, 2000, .inl f3)), (h4, .inl (cI, 2000, .inl f4))] H → va_D A [(h0, .inr (11, [.int v0_wide, .int v0_tall, .ref g0_sheet, .ref g0_words, .ref g0_size, .int v0_good, .int v0_faultPlace, .int v0_made, .int v0_fills, .int v0_painted, .ref g0_told, .ref g0_saved, .ref g0_saves, .ref g0_at, .ref h1, .ref h4, .ref h3, .ref h2, .ref g0_begun, .ref g0_lines, .ref g0_lastX, .ref g0_lastY, .ref g0_startX, .ref g0_startY, .ref g0_startPoint, .ref g0_both, .ref g0_cut, .int v0_other])), (h1, .inl (cI, 2, .inl f1)), (h2, .inl (cZ, 2000, .inl f2)), (h3, .inl (cI, 2000, .inl f3)), (h4, .inl (cI, 2000, .inl f4))] → va_S A s.heap H locs → lv_has ls 19 [(0, .ref h0), (2, .long p2), (4, .long p3), (6, .int p4), (7, .int l7_11), (8, .int s0_18), (9, .int x_4), (10, .int l10_13), (12, .int s0_24)] → K233_49 s0_48 = some res → W p l e (headSpec w_X12_isIn rm_X12_isIn).room s m ([.ref h0, .int p1, .long p2, .long p3, .int p4] : List Value).toArray below meth c H locs 0 0 (MQ below (QMz res (dC, dI) [(cI, .int), (cZ, .boolean), (cO, .object "ListPainter$Settings")] A [(h0, .inr (11, [.int v0_wide, .int v0_tall, .ref g0_sheet, .ref g0_words, .ref g0_size, .int v0_good, .int v0_faultPlace, .int v0_made, .int v0_fills, .int v0_painted, .ref g0_told, .ref g0_saved, .ref g0_saves, .ref g0_at, .ref h1, .ref h4, .ref h3, .ref h2, .ref g0_begun, .ref g0_lines, .ref g0_lastX, .ref g0_lastY, .ref g0_startX, .ref g0_startY, .ref g0_startPoint, .ref g0_both, .ref g0_cut, .int v0_other])), (h1, .inl (cI, 2, .inl f1)), (h2, .inl (cZ, 2000, .inl f2)), (h3, .inl (cI, 2000, .inl f3)), (h4, .inl (cI, 2000, .inl f4))]) ([.ref h0, .int p1, .long p2, .long p3, .int p4] : List Value).toArray s 0 0 A) (F0 m 233 ls [.int s0_48]) := by
                    intro s0_48 hz_s0_48 H locs ls hP hD hS hl hM
                    have hM := ja1 eK233_49 hM
                    refine lv_istore (lv' := [(18, .int s0_48), (0, .ref h0), (2, .long p2), (4, .long p3), (6, .int p4), (7, .int l7_11), (8, .int s0_18), (9, .int x_4), (10, .int l10_13), (12, .int s0_24)]) hx hb dX12_isIn_233 hl (by decide) rfl (fun ls hl => ?_)
                    refine lv_iload hx hb dX12_isIn_235 (lv_at hl 5 rfl) ?_
                    refine lv_iload hx hb dX12_isIn_237 (lv_at hl 0 rfl) ?_
                    obtain ⟨K256_51, eK256_51, hM⟩ := jn_u hM
                    have hJ256_51 : ∀ (s1_50 : Int32) , ∀ (H : Heap) (locs : List Loc) (ls : Array Slot), va_P (dC, dI) vwCl [(h0, .inr (11, [.int v0_wide, .int v0_tall, .ref g0_sheet, .ref g0_words, .ref g0_size, .int v0_good, .int v0_faultPlace, .int v0_made, .int v0_fills, .int v0_painted, .ref g0_told, .ref g0_saved, .ref g0_saves, .ref g0_at, .ref h1, .ref h4, .ref h3, .ref h2, .ref g0_begun, .ref g0_lines, .ref g0_lastX, .ref g0_lastY, .ref g0_startX, .ref g0_startY, .ref g0_startPoint, .ref g0_both, .ref g0_cut, .int v0_other])), (h1, .inl (cI, 2, .inl f1)), (h2, .inl (cZ, 2000, .inl f2)), (h3, .inl (cI, 2000, .inl f3)), (h4, .inl (cI, 2000, .inl f4))] H → va_D A [(h0, .inr (11, [.int v0_wide, .int v0_tall, .ref g0_sheet, .ref g0_words, .ref g0_size, .int v0_good, .int v0_faultPlace, .int v0_made, .int v0_fills, .int v0_painted, .ref g0_told, .ref g0_saved, .ref g0_saves, .ref g0_at, .ref h1, .ref h4, .ref h3, .ref h2, .ref g0_begun, .ref g0_lines, .ref g0_lastX, .ref g0_lastY, .ref g0_startX, .ref g0_startY, .ref g0_startPoint, .ref g0_both, .ref g0_cut, .int v0_other])), (h1, .inl (cI, 2, .inl f1)), (h2, .inl (cZ, 2000, .inl f2)), (h3, .inl (cI, 2000, .inl f3)), (h4, .inl (cI, 2000, .inl f4))] → va_S A s.heap H locs → lv_has ls 19 [(0, .ref h0), (2, .long p2), (4, .long p3), (6, .int p4), (8, .int s0_18), (9, .int x_4), (10, .int l10_13)] → K256_51 s1_50 = some res → W p l e (headSpec w_X12_isIn rm_X12_isIn).room s m ([.ref h0, .int p1, .long p2, .long p3, .int p4] : List Value).toArray below meth c H locs 0 0 (MQ below (QMz res (dC, dI) [(cI, .int), (cZ, .boolean), (cO, .object "ListPainter$Settings")] A [(h0, .inr (11, [.int v0_wide, .int v0_tall, .ref g0_sheet, .ref g0_words, .ref g0_size, .int v0_good, .int v0_faultPlace, .int v0_made, .int v0_fills, .int v0_painted, .ref g0_told, .ref g0_saved, .ref g0_saves, .ref g0_at, .ref h1, .ref h4, .ref h3, .ref h2, .ref g0_begun, .ref g0_lines, .ref g0_lastX, .ref g0_lastY, .ref g0_startX, .ref g0_startY, .ref g0_startPoint, .ref g0_both, .ref g0_cut, .int v0_other])), (h1, .inl (cI, 2, .inl f1)), (h2, .inl (cZ, 2000, .inl f2)), (h3, .inl (cI, 2000, .inl f3)), (h4, .inl (cI, 2000, .inl f4))]) ([.ref h0, .int p1, .long p2, .long p3, .int p4] : List Value).toArray s 0 0 A) (F0 m 256 ls [.int s1_50, .int l7_11]) := by
                      intro s1_50 H locs ls hP hD hS hl hM
                      have hM := ja1 eK256_51 hM
                      refine lv_iadd hx hb dX12_isIn_256 ?_
                      refine lv_topi (fun x_52 ex_52 => ?_)
                      have hM := nm_u ex_52 hM
                      refine lv_istore (lv' := [(7, .int x_52), (0, .ref h0), (2, .long p2), (4, .long p3), (6, .int p4), (8, .int s0_18), (9, .int x_4), (10, .int l10_13)]) hx hb dX12_isIn_257 hl (by decide) rfl (fun ls hl => ?_)
                      exact hJ259_31 x_52 H locs ls hP hD hS (lv_sub hl [1, 2, 3, 4, 0, 5, 6, 7] rfl) hM
                    refine lv_if_ne (tgt := 246) hx hb dX12_isIn_239 (by decide) (fun c_53 => ?_) (fun c_53 => ?_)
                    · have hM := if_f c_53 hM
                      refine lv_iload hx hb dX12_isIn_246 (lv_at hl 9 rfl) ?_
                      refine lv_if_eq (tgt := 255) hx hb dX12_isIn_248 (by decide) (fun c_54 => ?_) (fun c_54 => ?_)
                      · have hM := if_t c_54 hM
                        refine lv_iconst (v := (-1)) hx hb dX12_isIn_255 (by decide) ?_
                        exact hJ256_51 (-1) H locs ls hP hD hS (lv_sub hl [1, 2, 3, 4, 6, 7, 8] rfl) hM
                      · have hM := if_f c_54 hM
                        refine lv_iconst (v := 1) hx hb dX12_isIn_251 (by decide) ?_
                        refine lv_goto (tgt := 256) hx hb dX12_isIn_252 (by decide) ?_
                        exact hJ256_51 1 H locs ls hP hD hS (lv_sub hl [1, 2, 3, 4, 6, 7, 8] rfl) hM
                    · have hM := if_t c_53 hM
                      refine lv_iconst (v := 0) hx hb dX12_isIn_242 (by decide) ?_
                      refine lv_goto (tgt := 256) hx hb dX12_isIn_243 (by decide) ?_
                      exact hJ256_51 0 H locs ls hP hD hS (lv_sub hl [1, 2, 3, 4, 6, 7, 8] rfl) hM
                  refine lv_if_eq (tgt := 220) hx hb dX12_isIn_201 (by decide) (fun c_55 => ?_) (fun c_55 => ?_)
                  · have hM := if_t c_55 hM
                    refine lv_lload hx hb dX12_isIn_220 (lv_at hl 1 rfl) ?_
                    refine lv_lload hx hb dX12_isIn_222 (lv_at hl 0 rfl) ?_
                    refine W.lcmp hx hb dX12_isIn_224 ?_
                    refine lv_if_gt (tgt := 232) hx hb dX12_isIn_225 (by decide) (fun c_56 => ?_) (fun c_56 => ?_)
                    · have hM := if_t c_56 hM
                      refine lv_iconst (v := 0) hx hb dX12_isIn_232 (by decide) ?_
                      exact hJ233_49 0 (Or.inl rfl) H locs ls hP hD hS (lv_sub hl [3, 4, 5, 6, 7, 8, 9, 10, 12] rfl) hM
                    · have hM := if_f c_56 hM
                      refine lv_iconst (v := 1) hx hb dX12_isIn_228 (by decide) ?_
                      refine lv_goto (tgt := 233) hx hb dX12_isIn_229 (by decide) ?_
                      exact hJ233_49 1 (Or.inr rfl) H locs ls hP hD hS (lv_sub hl [3, 4, 5, 6, 7, 8, 9, 10, 12] rfl) hM
                  · have hM := if_f c_55 hM
                    refine lv_lload hx hb dX12_isIn_204 (lv_at hl 1 rfl) ?_
                    refine lv_lload hx hb dX12_isIn_206 (lv_at hl 0 rfl) ?_
                    refine W.lcmp hx hb dX12_isIn_208 ?_
                    refine lv_if_lt (tgt := 216) hx hb dX12_isIn_209 (by decide) (fun c_57 => ?_) (fun c_57 => ?_)
                    · have hM := if_t c_57 hM
                      refine lv_iconst (v := 0) hx hb dX12_isIn_216 (by decide) ?_
                      refine lv_goto (tgt := 233) hx hb dX12_isIn_217 (by decide) ?_
                      exact hJ233_49 0 (Or.inl rfl) H locs ls hP hD hS (lv_sub hl [3, 4, 5, 6, 7, 8, 9, 10, 12] rfl) hM
                    · have hM := if_f c_57 hM
                      refine lv_iconst (v := 1) hx hb dX12_isIn_212 (by decide) ?_
                      refine lv_goto (tgt := 233) hx hb dX12_isIn_213 (by decide) ?_
                      exact hJ233_49 1 (Or.inr rfl) H locs ls hP hD hS (lv_sub hl [3, 4, 5, 6, 7, 8, 9, 10, 12] rfl) hM
              refine lv_if_gt (tgt := 128) hx hb dX12_isIn_121 (by decide) (fun c_58 => ?_) (fun c_58 => ?_)
              · have hM := if_t c_58 hM
                refine lv_iconst (v := 0) hx hb dX12_isIn_128 (by decide) ?_
                exact hJ129_29 0 (Or.inl rfl) H locs ls hP hD hS (lv_sub hl [1, 2, 3, 4, 5, 6, 7, 8, 9, 0] rfl) hM
              · have hM := if_f c_58 hM
                refine lv_iconst (v := 1) hx hb dX12_isIn_124 (by decide) ?_
                refine lv_goto (tgt := 129) hx hb dX12_isIn_125 (by decide) ?_
                exact hJ129_29 1 (Or.inr rfl) H locs ls hP hD hS (lv_sub hl [1, 2, 3, 4, 5, 6, 7, 8, 9, 0] rfl) hM
            refine lv_if_gt (tgt := 107) hx hb dX12_isIn_100 (by decide) (fun c_59 => ?_) (fun c_59 => ?_)
            · have hM := if_t c_59 hM
              refine lv_iconst (v := 0) hx hb dX12_isIn_107 (by decide) ?_
              exact hJ108_25 0 (Or.inl rfl) H locs ls hP hD hS (lv_sub hl [1, 2, 3, 4, 5, 6, 7, 8, 0] rfl) hM
            · have hM := if_f c_59 hM
              refine lv_iconst (v := 1) hx hb dX12_isIn_103 (by decide) ?_
              refine lv_goto (tgt := 108) hx hb dX12_isIn_104 (by decide) ?_
              exact hJ108_25 1 (Or.inr rfl) H locs ls hP hD hS (lv_sub hl [1, 2, 3, 4, 5, 6, 7, 8, 0] rfl) hM
          obtain ⟨K78_60, eK78_60, hM⟩ := jn_u hM
          have hJ78_60 : ∀ (H : Heap) (locs : List Loc) (ls : Array Slot), va_P (dC, dI) vwCl [(h0, .inr (11, [.int v0_wide, .int v0_tall, .ref g0_sheet, .ref g0_words, .ref g0_size, .int v0_good, .int v0_faultPlace, .int v0_made, .int v0_fills, .int v0_painted, .ref g0_told, .ref g0_saved, .ref g0_saves, .ref g0_at, .ref h1, .ref h4, .ref h3, .ref h2, .ref g0_begun, .ref g0_lines, .ref g0_lastX, .ref g0_lastY, .ref g0_startX, .ref g0_startY, .ref g0_startPoint, .ref g0_both, .ref g0_cut, .int v0_other])), (h1, .inl (cI, 2, .inl f1)), (h2, .inl (cZ, 2000, .inl f2)), (h3, .inl (cI, 2000, .inl f3)), (h4, .inl (cI, 2000, .inl f4))] H → va_D A [(h0, .inr (11, [.int v0_wide, .int v0_tall, .ref g0_sheet, .ref g0_words, .ref g0_size, .int v0_good, .int v0_faultPlace, .int v0_made, .int v0_fills, .int v0_painted, .ref g0_told, .ref g0_saved, .ref g0_saves, .ref g0_at, .ref h1, .ref h4, .ref h3, .ref h2, .ref g0_begun, .ref g0_lines, .ref g0_lastX, .ref g0_lastY, .ref g0_startX, .ref g0_startY, .ref g0_startPoint, .ref g0_both, .ref g0_cut, .int v0_other])), (h1, .inl (cI, 2, .inl f1)), (h2, .inl (cZ, 2000, .inl f2)), (h3, .inl (cI, 2000, .inl f3)), (h4, .inl (cI, 2000, .inl f4))] → va_S A s.heap H locs → lv_has ls 19 [(0, .ref h0), (2, .long p2), (4, .long p3), (6, .int p4), (7, .int l7_11), (8, .int s0_18), (9, .int x_4), (10, .int l10_13)] → K78_60 = some res → W p l e (headSpec w_X12_isIn rm_X12_isIn).room s m ([.ref h0, .int p1, .long p2, .long p3, .int p4] : List Value).toArray below meth c H locs 0 0 (MQ below (QMz res (dC, dI) [(cI, .int), (cZ, .boolean), (cO, .object "ListPainter$Settings")] A [(h0, .inr (11, [.int v0_wide, .int v0_tall, .ref g0_sheet, .ref g0_words, .ref g0_size, .int v0_good, .int v0_faultPlace, .int v0_made, .int v0_fills, .int v0_painted, .ref g0_told, .ref g0_saved, .ref g0_saves, .ref g0_at, .ref h1, .ref h4, .ref h3, .ref h2, .ref g0_begun, .ref g0_lines, .ref g0_lastX, .ref g0_lastY, .ref g0_startX, .ref g0_startY, .ref g0_startPoint, .ref g0_both, .ref g0_cut, .int v0_other])), (h1, .inl (cI, 2, .inl f1)), (h2, .inl (cZ, 2000, .inl f2)), (h3, .inl (cI, 2000, .inl f3)), (h4, .inl (cI, 2000, .inl f4))]) ([.ref h0, .int p1, .long p2, .long p3, .int p4] : List Value).toArray s 0 0 A) (F0 m 78 ls []) := by
            intro H locs ls hP hD hS hl hM
            have hM := ja0 eK78_60 hM
            refine lv_iload hx hb dX12_isIn_78 (lv_at hl 5 rfl) ?_
            refine lv_goto (tgt := 87) hx hb dX12_isIn_80 (by decide) ?_
            exact hJ87_21 s0_18 H locs ls hP hD hS (lv_sub hl [0, 1, 2, 3, 4, 5, 6, 7] rfl) hM
          refine lv_icmp_eq (tgt := 78) hx hb dX12_isIn_63 (by decide) (fun c_61 => ?_) (fun c_61 => ?_)
          · have hM := if_t c_61 hM
            exact hJ78_60  H locs ls hP hD hS (lv_sub hl [1, 2, 3, 4, 5, 0, 6, 7] rfl) hM
          · have hM := if_f c_61 hM
            refine lv_aload_n hx hb dX12_isIn_66 rfl (lv_at hl 1 rfl) ?_
            refine va_get (D := (dC, dI)) (ci := 11) (v := .ref h2) (C := RX12) (T := TX12) (N := 28) hx hb hu inX12 hown hK hP 0 rfl rfl 17 (by decide) (hu _ kw_300) (fun _ h9 => h9) rfl dX12_isIn_67 ?_
            refine lv_iload hx hb dX12_isIn_70 (lv_at hl 7 rfl) ?_
            refine lv_iconst (v := 1) hx hb dX12_isIn_72 (by decide) ?_
            refine lv_iadd hx hb dX12_isIn_73 ?_
            obtain ⟨g_62, hM⟩ := gd_u hM
            refine va_zald hx hb hK hP 2 1 rfl rfl (inb_v g_62) dX12_isIn_74 ?_
            refine lv_topi (fun a_63 ea_63 => ?_)
            have hM := nm_u ea_63 hM
            refine lv_if_eq (tgt := 83) hx hb dX12_isIn_75 (by decide) (fun c_64 => ?_) (fun c_64 => ?_)
            · have hM := if_t c_64 hM
              refine lv_iload hx hb dX12_isIn_83 (lv_at hl 7 rfl) ?_
              refine lv_iconst (v := 1) hx hb dX12_isIn_85 (by decide) ?_
              refine lv_iadd hx hb dX12_isIn_86 ?_
              exact hJ87_21 (l10_13 + 1) H locs ls hP hD hS (lv_sub hl [1, 2, 3, 4, 5, 0, 6, 7] rfl) hM
            · have hM := if_f c_64 hM
              exact hJ78_60  H locs ls hP hD hS (lv_sub hl [1, 2, 3, 4, 5, 0, 6, 7] rfl) hM
        refine lv_if_eq (tgt := 53) hx hb dX12_isIn_45 (by decide) (fun c_65 => ?_) (fun c_65 => ?_)
        · have hM := if_t c_65 hM
          refine lv_iload hx hb dX12_isIn_53 (lv_at hl 5 rfl) ?_
          exact hJ55_19 l8_12 H locs ls hP hD hS (lv_sub hl [0, 1, 2, 3, 4, 6, 7] rfl) hM
        · have hM := if_f c_65 hM
          refine lv_iload hx hb dX12_isIn_48 (lv_at hl 7 rfl) ?_
          refine lv_goto (tgt := 55) hx hb dX12_isIn_50 (by decide) ?_
          exact hJ55_19 l10_13 H locs ls hP hD hS (lv_sub hl [0, 1, 2, 3, 4, 6, 7] rfl) hM
  exact hL31_14 FU 0 x_1 x_5 H locs ls hP hD hS (lv_sub hl [4, 6, 7, 8, 3, 2, 1, 0] rfl) hM
