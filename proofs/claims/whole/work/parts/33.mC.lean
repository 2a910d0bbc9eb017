section
variable {l : Launch} {D : va_G} {ck : Nat → ClassId} {ad : (Nat → Nat) × (Nat → Nat)} {b0 N : Nat} {f : Nat → va_E}
theorem d_Mod_number_0 : decode prog_10_method_23_code 0 = .ok (.iconst 1, 1) := by decide +kernel
theorem d_Mod_number_1 : decode prog_10_method_23_code 1 = .ok (.istore_n 3, 1) := by decide +kernel
theorem d_Mod_number_2 : decode prog_10_method_23_code 2 = .ok (.iconst 0, 1) := by decide +kernel
theorem d_Mod_number_3 : decode prog_10_method_23_code 3 = .ok (.istore 4, 2) := by decide +kernel
theorem d_Mod_number_5 : decode prog_10_method_23_code 5 = .ok (.aload_n 0, 1) := by decide +kernel
theorem d_Mod_number_6 : decode prog_10_method_23_code 6 = .ok (.getfield 84, 3) := by decide +kernel
theorem d_Mod_number_9 : decode prog_10_method_23_code 9 = .ok (.iconst 0, 1) := by decide +kernel
theorem d_Mod_number_10 : decode prog_10_method_23_code 10 = .ok (.iload_n 2, 1) := by decide +kernel
theorem d_Mod_number_11 : decode prog_10_method_23_code 11 = .ok (.iastore, 1) := by decide +kernel
theorem d_Mod_number_12 : decode prog_10_method_23_code 12 = .ok (.aload_n 0, 1) := by decide +kernel
theorem d_Mod_number_13 : decode prog_10_method_23_code 13 = .ok (.getfield 84, 3) := by decide +kernel
theorem d_Mod_number_16 : decode prog_10_method_23_code 16 = .ok (.iconst 1, 1) := by decide +kernel
theorem d_Mod_number_17 : decode prog_10_method_23_code 17 = .ok (.iconst (-1), 1) := by decide +kernel
theorem d_Mod_number_18 : decode prog_10_method_23_code 18 = .ok (.iastore, 1) := by decide +kernel
theorem d_Mod_number_19 : decode prog_10_method_23_code 19 = .ok (.iload_n 3, 1) := by decide +kernel
theorem d_Mod_number_20 : decode prog_10_method_23_code 20 = .ok (.ifCond .le 230, 3) := by decide +kernel
theorem d_Mod_number_23 : decode prog_10_method_23_code 23 = .ok (.iinc 3 (-1), 3) := by decide +kernel
theorem d_Mod_number_26 : decode prog_10_method_23_code 26 = .ok (.aload_n 0, 1) := by decide +kernel
theorem d_Mod_number_27 : decode prog_10_method_23_code 27 = .ok (.getfield 84, 3) := by decide +kernel
theorem d_Mod_number_30 : decode prog_10_method_23_code 30 = .ok (.iconst 2, 1) := by decide +kernel
theorem d_Mod_number_31 : decode prog_10_method_23_code 31 = .ok (.iload_n 3, 1) := by decide +kernel
theorem d_Mod_number_32 : decode prog_10_method_23_code 32 = .ok (.imul, 1) := by decide +kernel
theorem d_Mod_number_33 : decode prog_10_method_23_code 33 = .ok (.iaload, 1) := by decide +kernel
theorem d_Mod_number_34 : decode prog_10_method_23_code 34 = .ok (.istore 5, 2) := by decide +kernel
theorem d_Mod_number_36 : decode prog_10_method_23_code 36 = .ok (.aload_n 0, 1) := by decide +kernel
theorem d_Mod_number_37 : decode prog_10_method_23_code 37 = .ok (.getfield 84, 3) := by decide +kernel
theorem d_Mod_number_40 : decode prog_10_method_23_code 40 = .ok (.iconst 2, 1) := by decide +kernel
theorem d_Mod_number_41 : decode prog_10_method_23_code 41 = .ok (.iload_n 3, 1) := by decide +kernel
theorem d_Mod_number_42 : decode prog_10_method_23_code 42 = .ok (.imul, 1) := by decide +kernel
theorem d_Mod_number_43 : decode prog_10_method_23_code 43 = .ok (.iconst 1, 1) := by decide +kernel
theorem d_Mod_number_44 : decode prog_10_method_23_code 44 = .ok (.iadd, 1) := by decide +kernel
theorem d_Mod_number_45 : decode prog_10_method_23_code 45 = .ok (.iaload, 1) := by decide +kernel
theorem d_Mod_number_46 : decode prog_10_method_23_code 46 = .ok (.istore 6, 2) := by decide +kernel
theorem d_Mod_number_48 : decode prog_10_method_23_code 48 = .ok (.bipush 40, 2) := by decide +kernel
theorem d_Mod_number_50 : decode prog_10_method_23_code 50 = .ok (.iload_n 1, 1) := by decide +kernel
theorem d_Mod_number_51 : decode prog_10_method_23_code 51 = .ok (.imul, 1) := by decide +kernel
theorem d_Mod_number_52 : decode prog_10_method_23_code 52 = .ok (.iload 4, 2) := by decide +kernel
theorem d_Mod_number_54 : decode prog_10_method_23_code 54 = .ok (.iadd, 1) := by decide +kernel
theorem d_Mod_number_55 : decode prog_10_method_23_code 55 = .ok (.istore 7, 2) := by decide +kernel
theorem d_Mod_number_57 : decode prog_10_method_23_code 57 = .ok (.aload_n 0, 1) := by decide +kernel
theorem d_Mod_number_58 : decode prog_10_method_23_code 58 = .ok (.getfield 13, 3) := by decide +kernel
theorem d_Mod_number_61 : decode prog_10_method_23_code 61 = .ok (.iload 7, 2) := by decide +kernel
theorem d_Mod_number_63 : decode prog_10_method_23_code 63 = .ok (.aload_n 0, 1) := by decide +kernel
theorem d_Mod_number_64 : decode prog_10_method_23_code 64 = .ok (.getfield 56, 3) := by decide +kernel
theorem d_Mod_number_67 : decode prog_10_method_23_code 67 = .ok (.iload 5, 2) := by decide +kernel
theorem d_Mod_number_69 : decode prog_10_method_23_code 69 = .ok (.iaload, 1) := by decide +kernel
theorem d_Mod_number_70 : decode prog_10_method_23_code 70 = .ok (.iastore, 1) := by decide +kernel
theorem d_Mod_number_71 : decode prog_10_method_23_code 71 = .ok (.aload_n 0, 1) := by decide +kernel
theorem d_Mod_number_72 : decode prog_10_method_23_code 72 = .ok (.getfield 16, 3) := by decide +kernel
theorem d_Mod_number_75 : decode prog_10_method_23_code 75 = .ok (.iload 7, 2) := by decide +kernel
theorem d_Mod_number_77 : decode prog_10_method_23_code 77 = .ok (.aload_n 0, 1) := by decide +kernel
theorem d_Mod_number_78 : decode prog_10_method_23_code 78 = .ok (.getfield 59, 3) := by decide +kernel
theorem d_Mod_number_81 : decode prog_10_method_23_code 81 = .ok (.iload 5, 2) := by decide +kernel
theorem d_Mod_number_83 : decode prog_10_method_23_code 83 = .ok (.iaload, 1) := by decide +kernel
theorem d_Mod_number_84 : decode prog_10_method_23_code 84 = .ok (.iastore, 1) := by decide +kernel
theorem d_Mod_number_85 : decode prog_10_method_23_code 85 = .ok (.aload_n 0, 1) := by decide +kernel
theorem d_Mod_number_86 : decode prog_10_method_23_code 86 = .ok (.getfield 19, 3) := by decide +kernel
theorem d_Mod_number_89 : decode prog_10_method_23_code 89 = .ok (.iload 7, 2) := by decide +kernel
theorem d_Mod_number_91 : decode prog_10_method_23_code 91 = .ok (.iconst (-1), 1) := by decide +kernel
theorem d_Mod_number_92 : decode prog_10_method_23_code 92 = .ok (.iastore, 1) := by decide +kernel
theorem d_Mod_number_93 : decode prog_10_method_23_code 93 = .ok (.aload_n 0, 1) := by decide +kernel
theorem d_Mod_number_94 : decode prog_10_method_23_code 94 = .ok (.getfield 22, 3) := by decide +kernel
theorem d_Mod_number_97 : decode prog_10_method_23_code 97 = .ok (.iload 7, 2) := by decide +kernel
theorem d_Mod_number_99 : decode prog_10_method_23_code 99 = .ok (.iconst (-1), 1) := by decide +kernel
theorem d_Mod_number_100 : decode prog_10_method_23_code 100 = .ok (.iastore, 1) := by decide +kernel
theorem d_Mod_number_101 : decode prog_10_method_23_code 101 = .ok (.iload 6, 2) := by decide +kernel
theorem d_Mod_number_103 : decode prog_10_method_23_code 103 = .ok (.ifCond .lt 26, 3) := by decide +kernel
theorem d_Mod_number_106 : decode prog_10_method_23_code 106 = .ok (.iload 6, 2) := by decide +kernel
theorem d_Mod_number_108 : decode prog_10_method_23_code 108 = .ok (.iconst 2, 1) := by decide +kernel
theorem d_Mod_number_109 : decode prog_10_method_23_code 109 = .ok (.irem, 1) := by decide +kernel
theorem d_Mod_number_110 : decode prog_10_method_23_code 110 = .ok (.ifCond .ne 19, 3) := by decide +kernel
theorem d_Mod_number_113 : decode prog_10_method_23_code 113 = .ok (.aload_n 0, 1) := by decide +kernel
theorem d_Mod_number_114 : decode prog_10_method_23_code 114 = .ok (.getfield 19, 3) := by decide +kernel
theorem d_Mod_number_117 : decode prog_10_method_23_code 117 = .ok (.bipush 40, 2) := by decide +kernel
theorem d_Mod_number_119 : decode prog_10_method_23_code 119 = .ok (.iload_n 1, 1) := by decide +kernel
theorem d_Mod_number_120 : decode prog_10_method_23_code 120 = .ok (.imul, 1) := by decide +kernel
theorem d_Mod_number_121 : decode prog_10_method_23_code 121 = .ok (.iload 6, 2) := by decide +kernel
theorem d_Mod_number_123 : decode prog_10_method_23_code 123 = .ok (.iconst 2, 1) := by decide +kernel
theorem d_Mod_number_124 : decode prog_10_method_23_code 124 = .ok (.idiv, 1) := by decide +kernel
theorem d_Mod_number_125 : decode prog_10_method_23_code 125 = .ok (.iadd, 1) := by decide +kernel
theorem d_Mod_number_126 : decode prog_10_method_23_code 126 = .ok (.iload 4, 2) := by decide +kernel
theorem d_Mod_number_128 : decode prog_10_method_23_code 128 = .ok (.iastore, 1) := by decide +kernel
theorem d_Mod_number_129 : decode prog_10_method_23_code 129 = .ok (.iload 6, 2) := by decide +kernel
theorem d_Mod_number_131 : decode prog_10_method_23_code 131 = .ok (.ifCond .lt 27, 3) := by decide +kernel
theorem d_Mod_number_134 : decode prog_10_method_23_code 134 = .ok (.iload 6, 2) := by decide +kernel
theorem d_Mod_number_136 : decode prog_10_method_23_code 136 = .ok (.iconst 2, 1) := by decide +kernel
theorem d_Mod_number_137 : decode prog_10_method_23_code 137 = .ok (.irem, 1) := by decide +kernel
theorem d_Mod_number_138 : decode prog_10_method_23_code 138 = .ok (.iconst 1, 1) := by decide +kernel
theorem d_Mod_number_139 : decode prog_10_method_23_code 139 = .ok (.if_icmp .ne 19, 3) := by decide +kernel
theorem d_Mod_number_142 : decode prog_10_method_23_code 142 = .ok (.aload_n 0, 1) := by decide +kernel
theorem d_Mod_number_143 : decode prog_10_method_23_code 143 = .ok (.getfield 22, 3) := by decide +kernel
theorem d_Mod_number_146 : decode prog_10_method_23_code 146 = .ok (.bipush 40, 2) := by decide +kernel
theorem d_Mod_number_148 : decode prog_10_method_23_code 148 = .ok (.iload_n 1, 1) := by decide +kernel
theorem d_Mod_number_149 : decode prog_10_method_23_code 149 = .ok (.imul, 1) := by decide +kernel
theorem d_Mod_number_150 : decode prog_10_method_23_code 150 = .ok (.iload 6, 2) := by decide +kernel
theorem d_Mod_number_152 : decode prog_10_method_23_code 152 = .ok (.iconst 2, 1) := by decide +kernel
theorem d_Mod_number_153 : decode prog_10_method_23_code 153 = .ok (.idiv, 1) := by decide +kernel
theorem d_Mod_number_154 : decode prog_10_method_23_code 154 = .ok (.iadd, 1) := by decide +kernel
theorem d_Mod_number_155 : decode prog_10_method_23_code 155 = .ok (.iload 4, 2) := by decide +kernel
theorem d_Mod_number_157 : decode prog_10_method_23_code 157 = .ok (.iastore, 1) := by decide +kernel
theorem d_Mod_number_158 : decode prog_10_method_23_code 158 = .ok (.aload_n 0, 1) := by decide +kernel
theorem d_Mod_number_159 : decode prog_10_method_23_code 159 = .ok (.getfield 65, 3) := by decide +kernel
theorem d_Mod_number_162 : decode prog_10_method_23_code 162 = .ok (.iload 5, 2) := by decide +kernel
theorem d_Mod_number_164 : decode prog_10_method_23_code 164 = .ok (.iaload, 1) := by decide +kernel
theorem d_Mod_number_165 : decode prog_10_method_23_code 165 = .ok (.ifCond .lt 37, 3) := by decide +kernel
theorem d_Mod_number_168 : decode prog_10_method_23_code 168 = .ok (.aload_n 0, 1) := by decide +kernel
theorem d_Mod_number_169 : decode prog_10_method_23_code 169 = .ok (.getfield 84, 3) := by decide +kernel
theorem d_Mod_number_172 : decode prog_10_method_23_code 172 = .ok (.iconst 2, 1) := by decide +kernel
theorem d_Mod_number_173 : decode prog_10_method_23_code 173 = .ok (.iload_n 3, 1) := by decide +kernel
theorem d_Mod_number_174 : decode prog_10_method_23_code 174 = .ok (.imul, 1) := by decide +kernel
theorem d_Mod_number_175 : decode prog_10_method_23_code 175 = .ok (.aload_n 0, 1) := by decide +kernel
theorem d_Mod_number_176 : decode prog_10_method_23_code 176 = .ok (.getfield 65, 3) := by decide +kernel
theorem d_Mod_number_179 : decode prog_10_method_23_code 179 = .ok (.iload 5, 2) := by decide +kernel
theorem d_Mod_number_181 : decode prog_10_method_23_code 181 = .ok (.iaload, 1) := by decide +kernel
theorem d_Mod_number_182 : decode prog_10_method_23_code 182 = .ok (.iastore, 1) := by decide +kernel
theorem d_Mod_number_183 : decode prog_10_method_23_code 183 = .ok (.aload_n 0, 1) := by decide +kernel
theorem d_Mod_number_184 : decode prog_10_method_23_code 184 = .ok (.getfield 84, 3) := by decide +kernel
theorem d_Mod_number_187 : decode prog_10_method_23_code 187 = .ok (.iconst 2, 1) := by decide +kernel
theorem d_Mod_number_188 : decode prog_10_method_23_code 188 = .ok (.iload_n 3, 1) := by decide +kernel
theorem d_Mod_number_189 : decode prog_10_method_23_code 189 = .ok (.imul, 1) := by decide +kernel
theorem d_Mod_number_190 : decode prog_10_method_23_code 190 = .ok (.iconst 1, 1) := by decide +kernel
theorem d_Mod_number_191 : decode prog_10_method_23_code 191 = .ok (.iadd, 1) := by decide +kernel
theorem d_Mod_number_192 : decode prog_10_method_23_code 192 = .ok (.iconst 2, 1) := by decide +kernel
theorem d_Mod_number_193 : decode prog_10_method_23_code 193 = .ok (.iload 4, 2) := by decide +kernel
theorem d_Mod_number_195 : decode prog_10_method_23_code 195 = .ok (.imul, 1) := by decide +kernel
theorem d_Mod_number_196 : decode prog_10_method_23_code 196 = .ok (.iconst 1, 1) := by decide +kernel
theorem d_Mod_number_197 : decode prog_10_method_23_code 197 = .ok (.iadd, 1) := by decide +kernel
theorem d_Mod_number_198 : decode prog_10_method_23_code 198 = .ok (.iastore, 1) := by decide +kernel
theorem d_Mod_number_199 : decode prog_10_method_23_code 199 = .ok (.iinc 3 1, 3) := by decide +kernel
theorem d_Mod_number_202 : decode prog_10_method_23_code 202 = .ok (.aload_n 0, 1) := by decide +kernel
theorem d_Mod_number_203 : decode prog_10_method_23_code 203 = .ok (.getfield 62, 3) := by decide +kernel
theorem d_Mod_number_206 : decode prog_10_method_23_code 206 = .ok (.iload 5, 2) := by decide +kernel
theorem d_Mod_number_208 : decode prog_10_method_23_code 208 = .ok (.iaload, 1) := by decide +kernel
theorem d_Mod_number_209 : decode prog_10_method_23_code 209 = .ok (.ifCond .lt 35, 3) := by decide +kernel
theorem d_Mod_number_212 : decode prog_10_method_23_code 212 = .ok (.aload_n 0, 1) := by decide +kernel
theorem d_Mod_number_213 : decode prog_10_method_23_code 213 = .ok (.getfield 84, 3) := by decide +kernel
theorem d_Mod_number_216 : decode prog_10_method_23_code 216 = .ok (.iconst 2, 1) := by decide +kernel
theorem d_Mod_number_217 : decode prog_10_method_23_code 217 = .ok (.iload_n 3, 1) := by decide +kernel
theorem d_Mod_number_218 : decode prog_10_method_23_code 218 = .ok (.imul, 1) := by decide +kernel
theorem d_Mod_number_219 : decode prog_10_method_23_code 219 = .ok (.aload_n 0, 1) := by decide +kernel
theorem d_Mod_number_220 : decode prog_10_method_23_code 220 = .ok (.getfield 62, 3) := by decide +kernel
theorem d_Mod_number_223 : decode prog_10_method_23_code 223 = .ok (.iload 5, 2) := by decide +kernel
theorem d_Mod_number_225 : decode prog_10_method_23_code 225 = .ok (.iaload, 1) := by decide +kernel
theorem d_Mod_number_226 : decode prog_10_method_23_code 226 = .ok (.iastore, 1) := by decide +kernel
theorem d_Mod_number_227 : decode prog_10_method_23_code 227 = .ok (.aload_n 0, 1) := by decide +kernel
theorem d_Mod_number_228 : decode prog_10_method_23_code 228 = .ok (.getfield 84, 3) := by decide +kernel
theorem d_Mod_number_231 : decode prog_10_method_23_code 231 = .ok (.iconst 2, 1) := by decide +kernel
theorem d_Mod_number_232 : decode prog_10_method_23_code 232 = .ok (.iload_n 3, 1) := by decide +kernel
theorem d_Mod_number_233 : decode prog_10_method_23_code 233 = .ok (.imul, 1) := by decide +kernel
theorem d_Mod_number_234 : decode prog_10_method_23_code 234 = .ok (.iconst 1, 1) := by decide +kernel
theorem d_Mod_number_235 : decode prog_10_method_23_code 235 = .ok (.iadd, 1) := by decide +kernel
theorem d_Mod_number_236 : decode prog_10_method_23_code 236 = .ok (.iconst 2, 1) := by decide +kernel
theorem d_Mod_number_237 : decode prog_10_method_23_code 237 = .ok (.iload 4, 2) := by decide +kernel
theorem d_Mod_number_239 : decode prog_10_method_23_code 239 = .ok (.imul, 1) := by decide +kernel
theorem d_Mod_number_240 : decode prog_10_method_23_code 240 = .ok (.iastore, 1) := by decide +kernel
theorem d_Mod_number_241 : decode prog_10_method_23_code 241 = .ok (.iinc 3 1, 3) := by decide +kernel
theorem d_Mod_number_244 : decode prog_10_method_23_code 244 = .ok (.iinc 4 1, 3) := by decide +kernel
theorem d_Mod_number_247 : decode prog_10_method_23_code 247 = .ok (.goto (-228), 3) := by decide +kernel
theorem d_Mod_number_250 : decode prog_10_method_23_code 250 = .ok (.aload_n 0, 1) := by decide +kernel
theorem d_Mod_number_251 : decode prog_10_method_23_code 251 = .ok (.getfield 25, 3) := by decide +kernel
theorem d_Mod_number_254 : decode prog_10_method_23_code 254 = .ok (.iload_n 1, 1) := by decide +kernel
theorem d_Mod_number_255 : decode prog_10_method_23_code 255 = .ok (.iload 4, 2) := by decide +kernel
theorem d_Mod_number_257 : decode prog_10_method_23_code 257 = .ok (.iastore, 1) := by decide +kernel
theorem d_Mod_number_258 : decode prog_10_method_23_code 258 = .ok (.return_, 1) := by decide +kernel
def m_number_B : Nat → Nat → Int32 → Int32 → Int32 → Int32 → Int32 → MS → Option MS
  | 0, _, _, _, _, _, _, _ => none
  | n + 1, b, x1, x3, x4, x5, x6, μ => if b = 0 then (if x3 ≤ 0 then (if inb x1 20 = true then some (sA 10 (x1.toNatClampNeg) x4 μ) else none) else (if inb (2 * (x3 + (-1))) 64 = true then (if inb ((2 * (x3 + (-1))) + 1) 64 = true then (if inb ((μ.2.1 34) (2 * (x3 + (-1))).toNatClampNeg) 40 = true then (if inb ((40 * x1) + x4) 800 = true then (if ((μ.2.1 34) ((2 * (x3 + (-1))) + 1).toNatClampNeg) < 0 then m_number_B n 1 x1 (x3 + (-1)) x4 ((μ.2.1 34) (2 * (x3 + (-1))).toNatClampNeg) ((μ.2.1 34) ((2 * (x3 + (-1))) + 1).toNatClampNeg) (sA 9 (((40 * x1) + x4).toNatClampNeg) (-1) (sA 8 (((40 * x1) + x4).toNatClampNeg) (-1) (sA 7 (((40 * x1) + x4).toNatClampNeg) ((μ.2.1 21) ((μ.2.1 34) (2 * (x3 + (-1))).toNatClampNeg).toNatClampNeg) (sA 6 (((40 * x1) + x4).toNatClampNeg) ((μ.2.1 20) ((μ.2.1 34) (2 * (x3 + (-1))).toNatClampNeg).toNatClampNeg) μ)))) else (if (((μ.2.1 34) ((2 * (x3 + (-1))) + 1).toNatClampNeg) - ((μ.2.1 34) ((2 * (x3 + (-1))) + 1).toNatClampNeg) / 2 * 2) = 0 then (if inb ((40 * x1) + (((μ.2.1 34) ((2 * (x3 + (-1))) + 1).toNatClampNeg) / 2)) 800 = true then m_number_B n 1 x1 (x3 + (-1)) x4 ((μ.2.1 34) (2 * (x3 + (-1))).toNatClampNeg) ((μ.2.1 34) ((2 * (x3 + (-1))) + 1).toNatClampNeg) (sA 8 (((40 * x1) + (((μ.2.1 34) ((2 * (x3 + (-1))) + 1).toNatClampNeg) / 2)).toNatClampNeg) x4 (sA 9 (((40 * x1) + x4).toNatClampNeg) (-1) (sA 8 (((40 * x1) + x4).toNatClampNeg) (-1) (sA 7 (((40 * x1) + x4).toNatClampNeg) ((μ.2.1 21) ((μ.2.1 34) (2 * (x3 + (-1))).toNatClampNeg).toNatClampNeg) (sA 6 (((40 * x1) + x4).toNatClampNeg) ((μ.2.1 20) ((μ.2.1 34) (2 * (x3 + (-1))).toNatClampNeg).toNatClampNeg) μ))))) else none) else m_number_B n 1 x1 (x3 + (-1)) x4 ((μ.2.1 34) (2 * (x3 + (-1))).toNatClampNeg) ((μ.2.1 34) ((2 * (x3 + (-1))) + 1).toNatClampNeg) (sA 9 (((40 * x1) + x4).toNatClampNeg) (-1) (sA 8 (((40 * x1) + x4).toNatClampNeg) (-1) (sA 7 (((40 * x1) + x4).toNatClampNeg) ((μ.2.1 21) ((μ.2.1 34) (2 * (x3 + (-1))).toNatClampNeg).toNatClampNeg) (sA 6 (((40 * x1) + x4).toNatClampNeg) ((μ.2.1 20) ((μ.2.1 34) (2 * (x3 + (-1))).toNatClampNeg).toNatClampNeg) μ)))))) else none) else none) else none) else none))
    else if b = 1 then (if x6 < 0 then m_number_B n 2 x1 x3 x4 x5 0 μ else (if (x6 - x6 / 2 * 2) = 1 then (if inb ((40 * x1) + (x6 / 2)) 800 = true then m_number_B n 2 x1 x3 x4 x5 0 (sA 9 (((40 * x1) + (x6 / 2)).toNatClampNeg) x4 μ) else none) else m_number_B n 2 x1 x3 x4 x5 0 μ))
    else if b = 2 then (if inb x5 40 = true then (if ((μ.2.1 23) x5.toNatClampNeg) < 0 then m_number_B n 3 x1 x3 x4 x5 0 μ else (if inb (2 * x3) 64 = true then (if inb ((2 * x3) + 1) 64 = true then m_number_B n 3 x1 (x3 + 1) x4 x5 0 (sA 34 (((2 * x3) + 1).toNatClampNeg) ((2 * x4) + 1) (sA 34 ((2 * x3).toNatClampNeg) ((μ.2.1 23) x5.toNatClampNeg) μ)) else none) else none)) else none)
    else if b = 3 then (if inb x5 40 = true then (if ((μ.2.1 22) x5.toNatClampNeg) < 0 then m_number_B n 4 x1 x3 x4 0 0 μ else (if inb (2 * x3) 64 = true then (if inb ((2 * x3) + 1) 64 = true then m_number_B n 4 x1 (x3 + 1) x4 0 0 (sA 34 (((2 * x3) + 1).toNatClampNeg) (2 * x4) (sA 34 ((2 * x3).toNatClampNeg) ((μ.2.1 22) x5.toNatClampNeg) μ)) else none) else none)) else none)
    else m_number_B n 0 x1 x3 (x4 + 1) 0 0 μ
theorem m_number_b0 (n : Nat) (x1 : Int32) (x3 : Int32) (x4 : Int32) (x5 : Int32) (x6 : Int32) (μ : MS) : m_number_B (n + 1) 0 x1 x3 x4 x5 x6 μ = (if x3 ≤ 0 then (if inb x1 20 = true then some (sA 10 (x1.toNatClampNeg) x4 μ) else none) else (if inb (2 * (x3 + (-1))) 64 = true then (if inb ((2 * (x3 + (-1))) + 1) 64 = true then (if inb ((μ.2.1 34) (2 * (x3 + (-1))).toNatClampNeg) 40 = true then (if inb ((40 * x1) + x4) 800 = true then (if ((μ.2.1 34) ((2 * (x3 + (-1))) + 1).toNatClampNeg) < 0 then m_number_B n 1 x1 (x3 + (-1)) x4 ((μ.2.1 34) (2 * (x3 + (-1))).toNatClampNeg) ((μ.2.1 34) ((2 * (x3 + (-1))) + 1).toNatClampNeg) (sA 9 (((40 * x1) + x4).toNatClampNeg) (-1) (sA 8 (((40 * x1) + x4).toNatClampNeg) (-1) (sA 7 (((40 * x1) + x4).toNatClampNeg) ((μ.2.1 21) ((μ.2.1 34) (2 * (x3 + (-1))).toNatClampNeg).toNatClampNeg) (sA 6 (((40 * x1) + x4).toNatClampNeg) ((μ.2.1 20) ((μ.2.1 34) (2 * (x3 + (-1))).toNatClampNeg).toNatClampNeg) μ)))) else (if (((μ.2.1 34) ((2 * (x3 + (-1))) + 1).toNatClampNeg) - ((μ.2.1 34) ((2 * (x3 + (-1))) + 1).toNatClampNeg) / 2 * 2) = 0 then (if inb ((40 * x1) + (((μ.2.1 34) ((2 * (x3 + (-1))) + 1).toNatClampNeg) / 2)) 800 = true then m_number_B n 1 x1 (x3 + (-1)) x4 ((μ.2.1 34) (2 * (x3 + (-1))).toNatClampNeg) ((μ.2.1 34) ((2 * (x3 + (-1))) + 1).toNatClampNeg) (sA 8 (((40 * x1) + (((μ.2.1 34) ((2 * (x3 + (-1))) + 1).toNatClampNeg) / 2)).toNatClampNeg) x4 (sA 9 (((40 * x1) + x4).toNatClampNeg) (-1) (sA 8 (((40 * x1) + x4).toNatClampNeg) (-1) (sA 7 (((40 * x1) + x4).toNatClampNeg) ((μ.2.1 21) ((μ.2.1 34) (2 * (x3 + (-1))).toNatClampNeg).toNatClampNeg) (sA 6 (((40 * x1) + x4).toNatClampNeg) ((μ.2.1 20) ((μ.2.1 34) (2 * (x3 + (-1))).toNatClampNeg).toNatClampNeg) μ))))) else none) else m_number_B n 1 x1 (x3 + (-1)) x4 ((μ.2.1 34) (2 * (x3 + (-1))).toNatClampNeg) ((μ.2.1 34) ((2 * (x3 + (-1))) + 1).toNatClampNeg) (sA 9 (((40 * x1) + x4).toNatClampNeg) (-1) (sA 8 (((40 * x1) + x4).toNatClampNeg) (-1) (sA 7 (((40 * x1) + x4).toNatClampNeg) ((μ.2.1 21) ((μ.2.1 34) (2 * (x3 + (-1))).toNatClampNeg).toNatClampNeg) (sA 6 (((40 * x1) + x4).toNatClampNeg) ((μ.2.1 20) ((μ.2.1 34) (2 * (x3 + (-1))).toNatClampNeg).toNatClampNeg) μ)))))) else none) else none) else none) else none)) := by
  rw [m_number_B, if_pos rfl]
theorem m_number_b1 (n : Nat) (x1 : Int32) (x3 : Int32) (x4 : Int32) (x5 : Int32) (x6 : Int32) (μ : MS) : m_number_B (n + 1) 1 x1 x3 x4 x5 x6 μ = (if x6 < 0 then m_number_B n 2 x1 x3 x4 x5 0 μ else (if (x6 - x6 / 2 * 2) = 1 then (if inb ((40 * x1) + (x6 / 2)) 800 = true then m_number_B n 2 x1 x3 x4 x5 0 (sA 9 (((40 * x1) + (x6 / 2)).toNatClampNeg) x4 μ) else none) else m_number_B n 2 x1 x3 x4 x5 0 μ)) := by
  rw [m_number_B, if_neg (by decide), if_pos rfl]
theorem m_number_b2 (n : Nat) (x1 : Int32) (x3 : Int32) (x4 : Int32) (x5 : Int32) (x6 : Int32) (μ : MS) : m_number_B (n + 1) 2 x1 x3 x4 x5 x6 μ = (if inb x5 40 = true then (if ((μ.2.1 23) x5.toNatClampNeg) < 0 then m_number_B n 3 x1 x3 x4 x5 0 μ else (if inb (2 * x3) 64 = true then (if inb ((2 * x3) + 1) 64 = true then m_number_B n 3 x1 (x3 + 1) x4 x5 0 (sA 34 (((2 * x3) + 1).toNatClampNeg) ((2 * x4) + 1) (sA 34 ((2 * x3).toNatClampNeg) ((μ.2.1 23) x5.toNatClampNeg) μ)) else none) else none)) else none) := by
  rw [m_number_B, if_neg (by decide), if_neg (by decide), if_pos rfl]
theorem m_number_b3 (n : Nat) (x1 : Int32) (x3 : Int32) (x4 : Int32) (x5 : Int32) (x6 : Int32) (μ : MS) : m_number_B (n + 1) 3 x1 x3 x4 x5 x6 μ = (if inb x5 40 = true then (if ((μ.2.1 22) x5.toNatClampNeg) < 0 then m_number_B n 4 x1 x3 x4 0 0 μ else (if inb (2 * x3) 64 = true then (if inb ((2 * x3) + 1) 64 = true then m_number_B n 4 x1 (x3 + 1) x4 0 0 (sA 34 (((2 * x3) + 1).toNatClampNeg) (2 * x4) (sA 34 ((2 * x3).toNatClampNeg) ((μ.2.1 22) x5.toNatClampNeg) μ)) else none) else none)) else none) := by
  rw [m_number_B, if_neg (by decide), if_neg (by decide), if_neg (by decide), if_pos rfl]
theorem m_number_b4 (n : Nat) (x1 : Int32) (x3 : Int32) (x4 : Int32) (x5 : Int32) (x6 : Int32) (μ : MS) : m_number_B (n + 1) 4 x1 x3 x4 x5 x6 μ = m_number_B n 0 x1 x3 (x4 + 1) 0 0 μ := by
  rw [m_number_B, if_neg (by decide), if_neg (by decide), if_neg (by decide), if_neg (by decide)]
def m_number (x1 x2 : Int32) (μ : MS) : Option MS := (if inb 0 64 = true then (if inb 1 64 = true then m_number_B 4096 0 x1 1 0 0 0 (sA 34 ((1 : Int32).toNatClampNeg) (-1) (sA 34 ((0 : Int32).toNatClampNeg) x2 μ)) else none) else none)
set_option maxHeartbeats 4000000 in
set_option maxRecDepth 100000 in
theorem c_Mod_number {A : Nat → Nat} {f0 : Nat → va_E} {μ : MS} {x1 x2 : Int32} {res : MS} (hM : zMf ck b0 N A f0 f μ) (h : m_number x1 x2 μ = some res) : zK l D ck ad b0 y_Mod_number prog_10_method_23_code 8 (none) 0 0 0 [.ref (A 38), .int x1, .int x2] N f (fun r N' f' => r = none ∧ N = N' ∧ zMf ck b0 N A f0 f' res) := by
  refine zM.of zG_w (by decide) (Nat.le_of_ble_eq_true rfl) ?_
  intro zp ze zst zm zar zbe zme zc X hnm hb0
  have L : ∀ n : Nat, (∀ (x1 : Int32) (x3 : Int32) (x4 : Int32) (x5 : Int32) (x6 : Int32) (f1 : Nat → va_E) (μ : MS), zMf ck b0 N A f0 f1 μ → m_number_B n 0 x1 x3 x4 x5 x6 μ = some res → zW zp l ze (zR 0 0 0) zst zm zar zbe zme zc D zcl b0 8 0 0 (MQ zbe (zQ D zcl b0 (fun r N' f' => r = none ∧ N = N' ∧ zMf ck b0 N A f0 f' res)) zar zst 0 0 (zA b0)) N f1 19 [(0, .ref (A 38)), (1, .int x1), (3, .int x3), (4, .int x4)] []) ∧ (∀ (x1 : Int32) (x3 : Int32) (x4 : Int32) (x5 : Int32) (x6 : Int32) (f1 : Nat → va_E) (μ : MS), zMf ck b0 N A f0 f1 μ → m_number_B n 1 x1 x3 x4 x5 x6 μ = some res → zW zp l ze (zR 0 0 0) zst zm zar zbe zme zc D zcl b0 8 0 0 (MQ zbe (zQ D zcl b0 (fun r N' f' => r = none ∧ N = N' ∧ zMf ck b0 N A f0 f' res)) zar zst 0 0 (zA b0)) N f1 129 [(0, .ref (A 38)), (1, .int x1), (3, .int x3), (4, .int x4), (5, .int x5), (6, .int x6)] []) ∧ (∀ (x1 : Int32) (x3 : Int32) (x4 : Int32) (x5 : Int32) (x6 : Int32) (f1 : Nat → va_E) (μ : MS), zMf ck b0 N A f0 f1 μ → m_number_B n 2 x1 x3 x4 x5 x6 μ = some res → zW zp l ze (zR 0 0 0) zst zm zar zbe zme zc D zcl b0 8 0 0 (MQ zbe (zQ D zcl b0 (fun r N' f' => r = none ∧ N = N' ∧ zMf ck b0 N A f0 f' res)) zar zst 0 0 (zA b0)) N f1 158 [(0, .ref (A 38)), (1, .int x1), (3, .int x3), (4, .int x4), (5, .int x5)] []) ∧ (∀ (x1 : Int32) (x3 : Int32) (x4 : Int32) (x5 : Int32) (x6 : Int32) (f1 : Nat → va_E) (μ : MS), zMf ck b0 N A f0 f1 μ → m_number_B n 3 x1 x3 x4 x5 x6 μ = some res → zW zp l ze (zR 0 0 0) zst zm zar zbe zme zc D zcl b0 8 0 0 (MQ zbe (zQ D zcl b0 (fun r N' f' => r = none ∧ N = N' ∧ zMf ck b0 N A f0 f' res)) zar zst 0 0 (zA b0)) N f1 202 [(0, .ref (A 38)), (1, .int x1), (3, .int x3), (4, .int x4), (5, .int x5)] []) ∧ (∀ (x1 : Int32) (x3 : Int32) (x4 : Int32) (x5 : Int32) (x6 : Int32) (f1 : Nat → va_E) (μ : MS), zMf ck b0 N A f0 f1 μ → m_number_B n 4 x1 x3 x4 x5 x6 μ = some res → zW zp l ze (zR 0 0 0) zst zm zar zbe zme zc D zcl b0 8 0 0 (MQ zbe (zQ D zcl b0 (fun r N' f' => r = none ∧ N = N' ∧ zMf ck b0 N A f0 f' res)) zar zst 0 0 (zA b0)) N f1 244 [(0, .ref (A 38)), (1, .int x1), (3, .int x3), (4, .int x4)] []) := by
    intro n
    induction n with
    | zero =>
      exact ⟨fun _ _ _ _ _ _ _ _ h => (by rw [m_number_B] at h; cases h), fun _ _ _ _ _ _ _ _ h => (by rw [m_number_B] at h; cases h), fun _ _ _ _ _ _ _ _ h => (by rw [m_number_B] at h; cases h), fun _ _ _ _ _ _ _ _ h => (by rw [m_number_B] at h; cases h), fun _ _ _ _ _ _ _ _ h => (by rw [m_number_B] at h; cases h)⟩
    | succ n ih =>
      refine ⟨?_, ?_, ?_, ?_, ?_⟩
      · intro x1 x3 x4 x5 x6 f1 μ hM h
        rw [m_number_b0] at h
        refine z_iload_n X d_Mod_number_19 rfl ?_
        refine z_if_le X 250 d_Mod_number_20 (by decide) (fun h20 => ?_) (fun h20 => ?_)
        · skip
          have h := (if_pos h20).symm.trans h
          refine z_aload_n X d_Mod_number_250 rfl ?_
          refine z_get X (v := .ref (A 10)) d_Mod_number_251 (hM.lo 38 (by decide)) hM.ob cl_Mod in_Mod 10 (by decide) fl_Mod_25 rfl rfl ?_
          refine z_iload_n X d_Mod_number_254 rfl ?_
          refine z_iload X d_Mod_number_255 rfl ?_
          obtain ⟨b257, h⟩ := gd h
          refine z_iastM X d_Mod_number_257 hM 10 20 rfl rfl (vp_of b257) (fun hM => ?_)
          have e9 := Option.some.inj h
          subst e9
          exact z_vret X d_Mod_number_258 ⟨rfl, rfl, hM⟩
        · skip
          have h := (if_neg h20).symm.trans h
          refine z_iinc X d_Mod_number_23 rfl (iic (-1) (-1) (by decide) _) (by decide) rfl ?_
          refine z_aload_n X d_Mod_number_26 rfl ?_
          refine z_get X (v := .ref (A 34)) d_Mod_number_27 (hM.lo 38 (by decide)) hM.ob cl_Mod in_Mod 34 (by decide) fl_Mod_84 rfl rfl ?_
          refine z_iconst X d_Mod_number_30 (v := 2) (by decide) ?_
          refine z_iload_n X d_Mod_number_31 rfl ?_
          refine z_imul X d_Mod_number_32 ?_
          obtain ⟨b33, h⟩ := gd h
          refine z_iald X (g := (μ.2.1 34)) d_Mod_number_33 (hM.lo 34 (by decide)) (hM.iA 34 64 rfl) (t0 := 0) rfl (vp_of b33) ?_
          refine z_istore X d_Mod_number_34 (by decide) rfl ?_
          refine z_aload_n X d_Mod_number_36 rfl ?_
          refine z_get X (v := .ref (A 34)) d_Mod_number_37 (hM.lo 38 (by decide)) hM.ob cl_Mod in_Mod 34 (by decide) fl_Mod_84 rfl rfl ?_
          refine z_iconst X d_Mod_number_40 (v := 2) (by decide) ?_
          refine z_iload_n X d_Mod_number_41 rfl ?_
          refine z_imul X d_Mod_number_42 ?_
          refine z_iconst X d_Mod_number_43 (v := 1) (by decide) ?_
          refine z_iadd X d_Mod_number_44 ?_
          obtain ⟨b45, h⟩ := gd h
          refine z_iald X (g := (μ.2.1 34)) d_Mod_number_45 (hM.lo 34 (by decide)) (hM.iA 34 64 rfl) (t0 := 0) rfl (vp_of b45) ?_
          refine z_istore X d_Mod_number_46 (by decide) rfl ?_
          refine z_bipush X d_Mod_number_48 (v := 40) (by decide) ?_
          refine z_iload_n X d_Mod_number_50 rfl ?_
          refine z_imul X d_Mod_number_51 ?_
          refine z_iload X d_Mod_number_52 rfl ?_
          refine z_iadd X d_Mod_number_54 ?_
          refine z_istore X d_Mod_number_55 (by decide) rfl ?_
          refine z_aload_n X d_Mod_number_57 rfl ?_
          refine z_get X (v := .ref (A 6)) d_Mod_number_58 (hM.lo 38 (by decide)) hM.ob cl_Mod in_Mod 6 (by decide) fl_Mod_13 rfl rfl ?_
          refine z_iload X d_Mod_number_61 rfl ?_
          refine z_aload_n X d_Mod_number_63 rfl ?_
          refine z_get X (v := .ref (A 20)) d_Mod_number_64 (hM.lo 38 (by decide)) hM.ob cl_Mod in_Mod 20 (by decide) fl_Mod_56 rfl rfl ?_
          refine z_iload X d_Mod_number_67 rfl ?_
          obtain ⟨b69, h⟩ := gd h
          refine z_iald X (g := (μ.2.1 20)) d_Mod_number_69 (hM.lo 20 (by decide)) (hM.iA 20 40 rfl) (t0 := 0) rfl (vp_of b69) ?_
          obtain ⟨b70, h⟩ := gd h
          refine z_iastM X d_Mod_number_70 hM 6 800 rfl rfl (vp_of b70) (fun hM => ?_)
          refine z_aload_n X d_Mod_number_71 rfl ?_
          refine z_get X (v := .ref (A 7)) d_Mod_number_72 (hM.lo 38 (by decide)) hM.ob cl_Mod in_Mod 7 (by decide) fl_Mod_16 rfl rfl ?_
          refine z_iload X d_Mod_number_75 rfl ?_
          refine z_aload_n X d_Mod_number_77 rfl ?_
          refine z_get X (v := .ref (A 21)) d_Mod_number_78 (hM.lo 38 (by decide)) hM.ob cl_Mod in_Mod 21 (by decide) fl_Mod_59 rfl rfl ?_
          refine z_iload X d_Mod_number_81 rfl ?_
          refine z_iald X (g := (μ.2.1 21)) d_Mod_number_83 (hM.lo 21 (by decide)) (hM.iA 21 40 rfl) (t0 := 0) rfl (vp_of b69) ?_
          refine z_iastM X d_Mod_number_84 hM 7 800 rfl rfl (vp_of b70) (fun hM => ?_)
          refine z_aload_n X d_Mod_number_85 rfl ?_
          refine z_get X (v := .ref (A 8)) d_Mod_number_86 (hM.lo 38 (by decide)) hM.ob cl_Mod in_Mod 8 (by decide) fl_Mod_19 rfl rfl ?_
          refine z_iload X d_Mod_number_89 rfl ?_
          refine z_iconst X d_Mod_number_91 (v := -1) (by decide) ?_
          refine z_iastM X d_Mod_number_92 hM 8 800 rfl rfl (vp_of b70) (fun hM => ?_)
          refine z_aload_n X d_Mod_number_93 rfl ?_
          refine z_get X (v := .ref (A 9)) d_Mod_number_94 (hM.lo 38 (by decide)) hM.ob cl_Mod in_Mod 9 (by decide) fl_Mod_22 rfl rfl ?_
          refine z_iload X d_Mod_number_97 rfl ?_
          refine z_iconst X d_Mod_number_99 (v := -1) (by decide) ?_
          refine z_iastM X d_Mod_number_100 hM 9 800 rfl rfl (vp_of b70) (fun hM => ?_)
          refine z_iload X d_Mod_number_101 rfl ?_
          refine z_if_lt X 129 d_Mod_number_103 (by decide) (fun h103 => ?_) (fun h103 => ?_)
          · skip
            have h := (if_pos h103).symm.trans h
            refine zW.pick [0, 1, 2, 3, 4, 5] (lv' := [(0, .ref (A 38)), (1, .int x1), (3, .int (x3 + (-1))), (4, .int x4), (5, .int ((μ.2.1 34) (2 * (x3 + (-1))).toNatClampNeg)), (6, .int ((μ.2.1 34) ((2 * (x3 + (-1))) + 1).toNatClampNeg))]) rfl ?_
            exact (ih).2.1 x1 (x3 + (-1)) x4 ((μ.2.1 34) (2 * (x3 + (-1))).toNatClampNeg) ((μ.2.1 34) ((2 * (x3 + (-1))) + 1).toNatClampNeg) _ _ hM h
          · skip
            have h := (if_neg h103).symm.trans h
            refine z_iload X d_Mod_number_106 rfl ?_
            refine z_iconst X d_Mod_number_108 (v := 2) (by decide) ?_
            refine z_irem X d_Mod_number_109 (by decide) ?_
            refine z_if_ne X 129 d_Mod_number_110 (by decide) (fun h110 => ?_) (fun h110 => ?_)
            · skip
              have h := (if_neg h110).symm.trans h
              refine zW.pick [0, 1, 2, 3, 4, 5] (lv' := [(0, .ref (A 38)), (1, .int x1), (3, .int (x3 + (-1))), (4, .int x4), (5, .int ((μ.2.1 34) (2 * (x3 + (-1))).toNatClampNeg)), (6, .int ((μ.2.1 34) ((2 * (x3 + (-1))) + 1).toNatClampNeg))]) rfl ?_
              exact (ih).2.1 x1 (x3 + (-1)) x4 ((μ.2.1 34) (2 * (x3 + (-1))).toNatClampNeg) ((μ.2.1 34) ((2 * (x3 + (-1))) + 1).toNatClampNeg) _ _ hM h
            · skip
              have h := (if_pos h110).symm.trans h
              refine z_aload_n X d_Mod_number_113 rfl ?_
              refine z_get X (v := .ref (A 8)) d_Mod_number_114 (hM.lo 38 (by decide)) hM.ob cl_Mod in_Mod 8 (by decide) fl_Mod_19 rfl rfl ?_
              refine z_bipush X d_Mod_number_117 (v := 40) (by decide) ?_
              refine z_iload_n X d_Mod_number_119 rfl ?_
              refine z_imul X d_Mod_number_120 ?_
              refine z_iload X d_Mod_number_121 rfl ?_
              refine z_iconst X d_Mod_number_123 (v := 2) (by decide) ?_
              refine z_idiv X d_Mod_number_124 (by decide) ?_
              refine z_iadd X d_Mod_number_125 ?_
              refine z_iload X d_Mod_number_126 rfl ?_
              obtain ⟨b128, h⟩ := gd h
              refine z_iastM X d_Mod_number_128 hM 8 800 rfl rfl (vp_of b128) (fun hM => ?_)
              refine zW.pick [0, 1, 2, 3, 4, 5] (lv' := [(0, .ref (A 38)), (1, .int x1), (3, .int (x3 + (-1))), (4, .int x4), (5, .int ((μ.2.1 34) (2 * (x3 + (-1))).toNatClampNeg)), (6, .int ((μ.2.1 34) ((2 * (x3 + (-1))) + 1).toNatClampNeg))]) rfl ?_
              exact (ih).2.1 x1 (x3 + (-1)) x4 ((μ.2.1 34) (2 * (x3 + (-1))).toNatClampNeg) ((μ.2.1 34) ((2 * (x3 + (-1))) + 1).toNatClampNeg) _ _ hM h
      · intro x1 x3 x4 x5 x6 f1 μ hM h
        rw [m_number_b1] at h
        refine z_iload X d_Mod_number_129 rfl ?_
        refine z_if_lt X 158 d_Mod_number_131 (by decide) (fun h131 => ?_) (fun h131 => ?_)
        · skip
          have h := (if_pos h131).symm.trans h
          refine zW.pick [0, 1, 2, 3, 4] (lv' := [(0, .ref (A 38)), (1, .int x1), (3, .int x3), (4, .int x4), (5, .int x5)]) rfl ?_
          exact (ih).2.2.1 x1 x3 x4 x5 0 _ _ hM h
        · skip
          have h := (if_neg h131).symm.trans h
          refine z_iload X d_Mod_number_134 rfl ?_
          refine z_iconst X d_Mod_number_136 (v := 2) (by decide) ?_
          refine z_irem X d_Mod_number_137 (by decide) ?_
          refine z_iconst X d_Mod_number_138 (v := 1) (by decide) ?_
          refine z_icmp_ne X 158 d_Mod_number_139 (by decide) (fun h139 => ?_) (fun h139 => ?_)
          · skip
            have h := (if_neg h139).symm.trans h
            refine zW.pick [0, 1, 2, 3, 4] (lv' := [(0, .ref (A 38)), (1, .int x1), (3, .int x3), (4, .int x4), (5, .int x5)]) rfl ?_
            exact (ih).2.2.1 x1 x3 x4 x5 0 _ _ hM h
          · skip
            have h := (if_pos h139).symm.trans h
            refine z_aload_n X d_Mod_number_142 rfl ?_
            refine z_get X (v := .ref (A 9)) d_Mod_number_143 (hM.lo 38 (by decide)) hM.ob cl_Mod in_Mod 9 (by decide) fl_Mod_22 rfl rfl ?_
            refine z_bipush X d_Mod_number_146 (v := 40) (by decide) ?_
            refine z_iload_n X d_Mod_number_148 rfl ?_
            refine z_imul X d_Mod_number_149 ?_
            refine z_iload X d_Mod_number_150 rfl ?_
            refine z_iconst X d_Mod_number_152 (v := 2) (by decide) ?_
            refine z_idiv X d_Mod_number_153 (by decide) ?_
            refine z_iadd X d_Mod_number_154 ?_
            refine z_iload X d_Mod_number_155 rfl ?_
            obtain ⟨b157, h⟩ := gd h
            refine z_iastM X d_Mod_number_157 hM 9 800 rfl rfl (vp_of b157) (fun hM => ?_)
            refine zW.pick [0, 1, 2, 3, 4] (lv' := [(0, .ref (A 38)), (1, .int x1), (3, .int x3), (4, .int x4), (5, .int x5)]) rfl ?_
            exact (ih).2.2.1 x1 x3 x4 x5 0 _ _ hM h
      · intro x1 x3 x4 x5 x6 f1 μ hM h
        rw [m_number_b2] at h
        refine z_aload_n X d_Mod_number_158 rfl ?_
        refine z_get X (v := .ref (A 23)) d_Mod_number_159 (hM.lo 38 (by decide)) hM.ob cl_Mod in_Mod 23 (by decide) fl_Mod_65 rfl rfl ?_
        refine z_iload X d_Mod_number_162 rfl ?_
        obtain ⟨b164, h⟩ := gd h
        refine z_iald X (g := (μ.2.1 23)) d_Mod_number_164 (hM.lo 23 (by decide)) (hM.iA 23 40 rfl) (t0 := 0) rfl (vp_of b164) ?_
        refine z_if_lt X 202 d_Mod_number_165 (by decide) (fun h165 => ?_) (fun h165 => ?_)
        · skip
          have h := (if_pos h165).symm.trans h
          refine zW.pick [0, 1, 2, 3, 4] (lv' := [(0, .ref (A 38)), (1, .int x1), (3, .int x3), (4, .int x4), (5, .int x5)]) rfl ?_
          exact (ih).2.2.2.1 x1 x3 x4 x5 0 _ _ hM h
        · skip
          have h := (if_neg h165).symm.trans h
          refine z_aload_n X d_Mod_number_168 rfl ?_
          refine z_get X (v := .ref (A 34)) d_Mod_number_169 (hM.lo 38 (by decide)) hM.ob cl_Mod in_Mod 34 (by decide) fl_Mod_84 rfl rfl ?_
          refine z_iconst X d_Mod_number_172 (v := 2) (by decide) ?_
          refine z_iload_n X d_Mod_number_173 rfl ?_
          refine z_imul X d_Mod_number_174 ?_
          refine z_aload_n X d_Mod_number_175 rfl ?_
          refine z_get X (v := .ref (A 23)) d_Mod_number_176 (hM.lo 38 (by decide)) hM.ob cl_Mod in_Mod 23 (by decide) fl_Mod_65 rfl rfl ?_
          refine z_iload X d_Mod_number_179 rfl ?_
          refine z_iald X (g := (μ.2.1 23)) d_Mod_number_181 (hM.lo 23 (by decide)) (hM.iA 23 40 rfl) (t0 := 0) rfl (vp_of b164) ?_
          obtain ⟨b182, h⟩ := gd h
          refine z_iastM X d_Mod_number_182 hM 34 64 rfl rfl (vp_of b182) (fun hM => ?_)
          refine z_aload_n X d_Mod_number_183 rfl ?_
          refine z_get X (v := .ref (A 34)) d_Mod_number_184 (hM.lo 38 (by decide)) hM.ob cl_Mod in_Mod 34 (by decide) fl_Mod_84 rfl rfl ?_
          refine z_iconst X d_Mod_number_187 (v := 2) (by decide) ?_
          refine z_iload_n X d_Mod_number_188 rfl ?_
          refine z_imul X d_Mod_number_189 ?_
          refine z_iconst X d_Mod_number_190 (v := 1) (by decide) ?_
          refine z_iadd X d_Mod_number_191 ?_
          refine z_iconst X d_Mod_number_192 (v := 2) (by decide) ?_
          refine z_iload X d_Mod_number_193 rfl ?_
          refine z_imul X d_Mod_number_195 ?_
          refine z_iconst X d_Mod_number_196 (v := 1) (by decide) ?_
          refine z_iadd X d_Mod_number_197 ?_
          obtain ⟨b198, h⟩ := gd h
          refine z_iastM X d_Mod_number_198 hM 34 64 rfl rfl (vp_of b198) (fun hM => ?_)
          refine z_iinc X d_Mod_number_199 rfl (iic 1 1 (by decide) _) (by decide) rfl ?_
          refine zW.pick [0, 1, 2, 3, 4] (lv' := [(0, .ref (A 38)), (1, .int x1), (3, .int (x3 + 1)), (4, .int x4), (5, .int x5)]) rfl ?_
          exact (ih).2.2.2.1 x1 (x3 + 1) x4 x5 0 _ _ hM h
      · intro x1 x3 x4 x5 x6 f1 μ hM h
        rw [m_number_b3] at h
        refine z_aload_n X d_Mod_number_202 rfl ?_
        refine z_get X (v := .ref (A 22)) d_Mod_number_203 (hM.lo 38 (by decide)) hM.ob cl_Mod in_Mod 22 (by decide) fl_Mod_62 rfl rfl ?_
        refine z_iload X d_Mod_number_206 rfl ?_
        obtain ⟨b208, h⟩ := gd h
        refine z_iald X (g := (μ.2.1 22)) d_Mod_number_208 (hM.lo 22 (by decide)) (hM.iA 22 40 rfl) (t0 := 0) rfl (vp_of b208) ?_
        refine z_if_lt X 244 d_Mod_number_209 (by decide) (fun h209 => ?_) (fun h209 => ?_)
        · skip
          have h := (if_pos h209).symm.trans h
          refine zW.pick [0, 1, 2, 3] (lv' := [(0, .ref (A 38)), (1, .int x1), (3, .int x3), (4, .int x4)]) rfl ?_
          exact (ih).2.2.2.2 x1 x3 x4 0 0 _ _ hM h
        · skip
          have h := (if_neg h209).symm.trans h
          refine z_aload_n X d_Mod_number_212 rfl ?_
          refine z_get X (v := .ref (A 34)) d_Mod_number_213 (hM.lo 38 (by decide)) hM.ob cl_Mod in_Mod 34 (by decide) fl_Mod_84 rfl rfl ?_
          refine z_iconst X d_Mod_number_216 (v := 2) (by decide) ?_
          refine z_iload_n X d_Mod_number_217 rfl ?_
          refine z_imul X d_Mod_number_218 ?_
          refine z_aload_n X d_Mod_number_219 rfl ?_
          refine z_get X (v := .ref (A 22)) d_Mod_number_220 (hM.lo 38 (by decide)) hM.ob cl_Mod in_Mod 22 (by decide) fl_Mod_62 rfl rfl ?_
          refine z_iload X d_Mod_number_223 rfl ?_
          refine z_iald X (g := (μ.2.1 22)) d_Mod_number_225 (hM.lo 22 (by decide)) (hM.iA 22 40 rfl) (t0 := 0) rfl (vp_of b208) ?_
          obtain ⟨b226, h⟩ := gd h
          refine z_iastM X d_Mod_number_226 hM 34 64 rfl rfl (vp_of b226) (fun hM => ?_)
          refine z_aload_n X d_Mod_number_227 rfl ?_
          refine z_get X (v := .ref (A 34)) d_Mod_number_228 (hM.lo 38 (by decide)) hM.ob cl_Mod in_Mod 34 (by decide) fl_Mod_84 rfl rfl ?_
          refine z_iconst X d_Mod_number_231 (v := 2) (by decide) ?_
          refine z_iload_n X d_Mod_number_232 rfl ?_
          refine z_imul X d_Mod_number_233 ?_
          refine z_iconst X d_Mod_number_234 (v := 1) (by decide) ?_
          refine z_iadd X d_Mod_number_235 ?_
          refine z_iconst X d_Mod_number_236 (v := 2) (by decide) ?_
          refine z_iload X d_Mod_number_237 rfl ?_
          refine z_imul X d_Mod_number_239 ?_
          obtain ⟨b240, h⟩ := gd h
          refine z_iastM X d_Mod_number_240 hM 34 64 rfl rfl (vp_of b240) (fun hM => ?_)
          refine z_iinc X d_Mod_number_241 rfl (iic 1 1 (by decide) _) (by decide) rfl ?_
          refine zW.pick [0, 1, 2, 3] (lv' := [(0, .ref (A 38)), (1, .int x1), (3, .int (x3 + 1)), (4, .int x4)]) rfl ?_
          exact (ih).2.2.2.2 x1 (x3 + 1) x4 0 0 _ _ hM h
      · intro x1 x3 x4 x5 x6 f1 μ hM h
        rw [m_number_b4] at h
        refine z_iinc X d_Mod_number_244 rfl (iic 1 1 (by decide) _) (by decide) rfl ?_
        refine z_goto X 19 d_Mod_number_247 (by decide) ?_
        refine zW.pick [0, 1, 2, 3] (lv' := [(0, .ref (A 38)), (1, .int x1), (3, .int x3), (4, .int (x4 + 1))]) rfl ?_
        exact (ih).1 x1 x3 (x4 + 1) 0 0 _ _ hM h
  rw [m_number] at h
  refine z_iconst X d_Mod_number_0 (v := 1) (by decide) ?_
  refine z_istore_n X d_Mod_number_1 (by decide) rfl ?_
  refine z_iconst X d_Mod_number_2 (v := 0) (by decide) ?_
  refine z_istore X d_Mod_number_3 (by decide) rfl ?_
  refine z_aload_n X d_Mod_number_5 rfl ?_
  refine z_get X (v := .ref (A 34)) d_Mod_number_6 (hM.lo 38 (by decide)) hM.ob cl_Mod in_Mod 34 (by decide) fl_Mod_84 rfl rfl ?_
  refine z_iconst X d_Mod_number_9 (v := 0) (by decide) ?_
  refine z_iload_n X d_Mod_number_10 rfl ?_
  obtain ⟨b11, h⟩ := gd h
  refine z_iastM X d_Mod_number_11 hM 34 64 rfl rfl (vp_of b11) (fun hM => ?_)
  refine z_aload_n X d_Mod_number_12 rfl ?_
  refine z_get X (v := .ref (A 34)) d_Mod_number_13 (hM.lo 38 (by decide)) hM.ob cl_Mod in_Mod 34 (by decide) fl_Mod_84 rfl rfl ?_
  refine z_iconst X d_Mod_number_16 (v := 1) (by decide) ?_
  refine z_iconst X d_Mod_number_17 (v := -1) (by decide) ?_
  obtain ⟨b18, h⟩ := gd h
  refine z_iastM X d_Mod_number_18 hM 34 64 rfl rfl (vp_of b18) (fun hM => ?_)
  refine zW.pick [0, 1, 3, 4] (lv' := [(0, .ref (A 38)), (1, .int x1), (3, .int 1), (4, .int 0)]) rfl ?_
  exact (L 4096).1 x1 1 0 0 0 _ _ hM h
theorem d_Mod_rule_0 : decode prog_10_method_24_code 0 = .ok (.aload_n 0, 1) := by decide +kernel
theorem d_Mod_rule_1 : decode prog_10_method_24_code 1 = .ok (.aload_n 0, 1) := by decide +kernel
theorem d_Mod_rule_2 : decode prog_10_method_24_code 2 = .ok (.getfield 97, 3) := by decide +kernel
theorem d_Mod_rule_5 : decode prog_10_method_24_code 5 = .ok (.bipush 20, 2) := by decide +kernel
theorem d_Mod_rule_7 : decode prog_10_method_24_code 7 = .ok (.if_icmp .ne 7, 3) := by decide +kernel
theorem d_Mod_rule_10 : decode prog_10_method_24_code 10 = .ok (.iconst 1, 1) := by decide +kernel
theorem d_Mod_rule_11 : decode prog_10_method_24_code 11 = .ok (.goto 4, 3) := by decide +kernel
theorem d_Mod_rule_14 : decode prog_10_method_24_code 14 = .ok (.iconst 0, 1) := by decide +kernel
theorem d_Mod_rule_15 : decode prog_10_method_24_code 15 = .ok (.putfield 93, 3) := by decide +kernel
theorem d_Mod_rule_18 : decode prog_10_method_24_code 18 = .ok (.aload_n 0, 1) := by decide +kernel
theorem d_Mod_rule_19 : decode prog_10_method_24_code 19 = .ok (.getfield 93, 3) := by decide +kernel
theorem d_Mod_rule_22 : decode prog_10_method_24_code 22 = .ok (.ifCond .le 5, 3) := by decide +kernel
theorem d_Mod_rule_25 : decode prog_10_method_24_code 25 = .ok (.iconst 0, 1) := by decide +kernel
theorem d_Mod_rule_26 : decode prog_10_method_24_code 26 = .ok (.ireturn, 1) := by decide +kernel
theorem d_Mod_rule_27 : decode prog_10_method_24_code 27 = .ok (.aload_n 0, 1) := by decide +kernel
theorem d_Mod_rule_28 : decode prog_10_method_24_code 28 = .ok (.invokevirtual 191, 3) := by decide +kernel
theorem d_Mod_rule_31 : decode prog_10_method_24_code 31 = .ok (.istore_n 1, 1) := by decide +kernel
theorem d_Mod_rule_32 : decode prog_10_method_24_code 32 = .ok (.aload_n 0, 1) := by decide +kernel
theorem d_Mod_rule_33 : decode prog_10_method_24_code 33 = .ok (.iconst 0, 1) := by decide +kernel
theorem d_Mod_rule_34 : decode prog_10_method_24_code 34 = .ok (.putfield 104, 3) := by decide +kernel
theorem d_Mod_rule_37 : decode prog_10_method_24_code 37 = .ok (.aload_n 0, 1) := by decide +kernel
theorem d_Mod_rule_38 : decode prog_10_method_24_code 38 = .ok (.getfield 128, 3) := by decide +kernel
theorem d_Mod_rule_41 : decode prog_10_method_24_code 41 = .ok (.ifCond .lt 10, 3) := by decide +kernel
theorem d_Mod_rule_44 : decode prog_10_method_24_code 44 = .ok (.iconst (-1), 1) := by decide +kernel
theorem d_Mod_rule_45 : decode prog_10_method_24_code 45 = .ok (.aload_n 0, 1) := by decide +kernel
theorem d_Mod_rule_46 : decode prog_10_method_24_code 46 = .ok (.getfield 128, 3) := by decide +kernel
theorem d_Mod_rule_49 : decode prog_10_method_24_code 49 = .ok (.isub, 1) := by decide +kernel
theorem d_Mod_rule_50 : decode prog_10_method_24_code 50 = .ok (.ireturn, 1) := by decide +kernel
theorem d_Mod_rule_51 : decode prog_10_method_24_code 51 = .ok (.aload_n 0, 1) := by decide +kernel
theorem d_Mod_rule_52 : decode prog_10_method_24_code 52 = .ok (.aload_n 0, 1) := by decide +kernel
theorem d_Mod_rule_53 : decode prog_10_method_24_code 53 = .ok (.getfield 97, 3) := by decide +kernel
theorem d_Mod_rule_56 : decode prog_10_method_24_code 56 = .ok (.iload_n 1, 1) := by decide +kernel
theorem d_Mod_rule_57 : decode prog_10_method_24_code 57 = .ok (.invokevirtual 194, 3) := by decide +kernel
theorem d_Mod_rule_60 : decode prog_10_method_24_code 60 = .ok (.aload_n 0, 1) := by decide +kernel
theorem d_Mod_rule_61 : decode prog_10_method_24_code 61 = .ok (.getfield 31, 3) := by decide +kernel
theorem d_Mod_rule_64 : decode prog_10_method_24_code 64 = .ok (.aload_n 0, 1) := by decide +kernel
theorem d_Mod_rule_65 : decode prog_10_method_24_code 65 = .ok (.getfield 97, 3) := by decide +kernel
theorem d_Mod_rule_68 : decode prog_10_method_24_code 68 = .ok (.iconst 1, 1) := by decide +kernel
theorem d_Mod_rule_69 : decode prog_10_method_24_code 69 = .ok (.bastore, 1) := by decide +kernel
theorem d_Mod_rule_70 : decode prog_10_method_24_code 70 = .ok (.aload_n 0, 1) := by decide +kernel
theorem d_Mod_rule_71 : decode prog_10_method_24_code 71 = .ok (.getfield 38, 3) := by decide +kernel
theorem d_Mod_rule_74 : decode prog_10_method_24_code 74 = .ok (.aload_n 0, 1) := by decide +kernel
theorem d_Mod_rule_75 : decode prog_10_method_24_code 75 = .ok (.getfield 97, 3) := by decide +kernel
theorem d_Mod_rule_78 : decode prog_10_method_24_code 78 = .ok (.iconst (-1), 1) := by decide +kernel
theorem d_Mod_rule_79 : decode prog_10_method_24_code 79 = .ok (.iastore, 1) := by decide +kernel
theorem d_Mod_rule_80 : decode prog_10_method_24_code 80 = .ok (.aload_n 0, 1) := by decide +kernel
theorem d_Mod_rule_81 : decode prog_10_method_24_code 81 = .ok (.dup, 1) := by decide +kernel
theorem d_Mod_rule_82 : decode prog_10_method_24_code 82 = .ok (.getfield 97, 3) := by decide +kernel
theorem d_Mod_rule_85 : decode prog_10_method_24_code 85 = .ok (.iconst 1, 1) := by decide +kernel
theorem d_Mod_rule_86 : decode prog_10_method_24_code 86 = .ok (.iadd, 1) := by decide +kernel
theorem d_Mod_rule_87 : decode prog_10_method_24_code 87 = .ok (.putfield 97, 3) := by decide +kernel
theorem d_Mod_rule_90 : decode prog_10_method_24_code 90 = .ok (.aload_n 0, 1) := by decide +kernel
theorem d_Mod_rule_91 : decode prog_10_method_24_code 91 = .ok (.getfield 97, 3) := by decide +kernel
theorem d_Mod_rule_94 : decode prog_10_method_24_code 94 = .ok (.iconst 1, 1) := by decide +kernel
theorem d_Mod_rule_95 : decode prog_10_method_24_code 95 = .ok (.isub, 1) := by decide +kernel
theorem d_Mod_rule_96 : decode prog_10_method_24_code 96 = .ok (.ireturn, 1) := by decide +kernel
def m_rule (μ : MS) : Option (Int32 × MS) := (if (μ.1 3) = 20 then some (0, (sI 0 1 μ)) else (m_read (sI 0 0 μ)).bind (fun p28 => (if (p28.2.1 27) < 0 then (m_number (p28.2.1 3) p28.1 (sI 2 0 p28.2)).bind (fun p57 => (if inb (p57.1 3) 20 = true then some ((((p57.1 3) + 1) - 1), (sI 3 ((p57.1 3) + 1) (sA 14 ((p57.1 3).toNatClampNeg) (-1) (sA 12 ((p57.1 3).toNatClampNeg) (vp_nar .boolean 1) p57)))) else none)) else some (((-1) - (p28.2.1 27)), (sI 2 0 p28.2)))))
set_option maxHeartbeats 4000000 in
set_option maxRecDepth 100000 in
theorem c_Mod_rule {A : Nat → Nat} {f0 : Nat → va_E} {μ : MS} {res : (Int32 × MS)} (hM : zMf ck b0 N A f0 f μ) (h : m_rule μ = some res) : zK l D ck ad b0 y_Mod_rule prog_10_method_24_code 2 ((some FieldType.int)) 8 0 0 [.ref (A 38)] N f (fun r N' f' => r = some (.int res.1) ∧ N = N' ∧ zMf ck b0 N A f0 f' res.2) := by
  refine zM.of zG_w (by decide) (Nat.le_of_ble_eq_true rfl) ?_
  intro zp ze zst zm zar zbe zme zc X hnm hb0
  rw [m_rule] at h
  refine z_aload_n X d_Mod_rule_0 rfl ?_
  refine z_aload_n X d_Mod_rule_1 rfl ?_
  refine z_get X (v := .int (μ.1 3)) d_Mod_rule_2 (hM.lo 38 (by decide)) hM.ob cl_Mod in_Mod 3 (by decide) fl_Mod_97 rfl rfl ?_
  refine z_bipush X d_Mod_rule_5 (v := 20) (by decide) ?_
  refine z_icmp_ne X 14 d_Mod_rule_7 (by decide) (fun h7 => ?_) (fun h7 => ?_)
  · skip
    have h := (if_neg h7).symm.trans h
    refine z_iconst X d_Mod_rule_14 (v := 0) (by decide) ?_
    refine z_putM X t_Mod ty_Mod n_Mod d_Mod_rule_15 hM cl_Mod in_Mod 0 (by decide) fl_Mod_93 rfl rfl rfl (by decide) rfl (fun hM => ?_)
    refine z_aload_n X d_Mod_rule_18 rfl ?_
    refine z_get X (v := .int 0) d_Mod_rule_19 (hM.lo 38 (by decide)) hM.ob cl_Mod in_Mod 0 (by decide) fl_Mod_93 rfl rfl ?_
    refine z_if_le X 27 d_Mod_rule_22 (by decide) (fun h22 => ?_) (fun h22 => ?_)
    · skip
      refine z_aload_n X d_Mod_rule_27 rfl ?_
      obtain ⟨p28, q28, h⟩ := bd h
      refine z_callV X zG_ok (c_Mod_read hM q28) d_Mod_rule_28 ⟨(z_cb (n := 0) X.2.2.2.2.1 ml_Mod_191 mc_Mod_read ini_Mod (by decide +kernel) rfl rfl ⟨Nat.le_of_ble_eq_true rfl, Nat.le_of_ble_eq_true rfl⟩), X.2.2.2.2.1 _ im_Mod_read, X.2.2.2.2.1 _ sel_Mod_read⟩ (hM.lo 38 (by decide)) hM.ob cl_Mod rfl rfl (Nat.le_of_ble_eq_true rfl) ⟨Nat.le_of_ble_eq_true rfl, Nat.le_of_ble_eq_true rfl⟩ (fun r N1 f1 hp hN1 => ?_)
      obtain ⟨rfl, rfl, hM⟩ := hp
      refine z_istore_n X d_Mod_rule_31 (by decide) rfl ?_
      refine z_aload_n X d_Mod_rule_32 rfl ?_
      refine z_iconst X d_Mod_rule_33 (v := 0) (by decide) ?_
      refine z_putM X t_Mod ty_Mod n_Mod d_Mod_rule_34 hM cl_Mod in_Mod 2 (by decide) fl_Mod_104 rfl rfl rfl (by decide) rfl (fun hM => ?_)
      refine z_aload_n X d_Mod_rule_37 rfl ?_
      refine z_get X (v := .int (p28.2.1 27)) d_Mod_rule_38 (hM.lo 38 (by decide)) hM.ob cl_Mod in_Mod 27 (by decide) fl_Mod_128 rfl rfl ?_
      refine z_if_lt X 51 d_Mod_rule_41 (by decide) (fun h41 => ?_) (fun h41 => ?_)
      · skip
        have h := (if_pos h41).symm.trans h
        refine z_aload_n X d_Mod_rule_51 rfl ?_
        refine z_aload_n X d_Mod_rule_52 rfl ?_
        refine z_get X (v := .int (p28.2.1 3)) d_Mod_rule_53 (hM.lo 38 (by decide)) hM.ob cl_Mod in_Mod 3 (by decide) fl_Mod_97 rfl rfl ?_
        refine z_iload_n X d_Mod_rule_56 rfl ?_
        obtain ⟨p57, q57, h⟩ := bd h
        refine z_callV X zG_ok (c_Mod_number hM q57) d_Mod_rule_57 ⟨(z_cb (n := 2) X.2.2.2.2.1 ml_Mod_194 mc_Mod_number ini_Mod (by decide +kernel) rfl rfl ⟨Nat.le_of_ble_eq_true rfl, Nat.le_of_ble_eq_true rfl⟩), X.2.2.2.2.1 _ im_Mod_number, X.2.2.2.2.1 _ sel_Mod_number⟩ (hM.lo 38 (by decide)) hM.ob cl_Mod rfl rfl (Nat.le_of_ble_eq_true rfl) ⟨Nat.le_of_ble_eq_true rfl, Nat.le_of_ble_eq_true rfl⟩ (fun r N1 f1 hp hN1 => ?_)
        obtain ⟨rfl, rfl, hM⟩ := hp
        refine z_aload_n X d_Mod_rule_60 rfl ?_
        refine z_get X (v := .ref (A 12)) d_Mod_rule_61 (hM.lo 38 (by decide)) hM.ob cl_Mod in_Mod 12 (by decide) fl_Mod_31 rfl rfl ?_
        refine z_aload_n X d_Mod_rule_64 rfl ?_
        refine z_get X (v := .int (p57.1 3)) d_Mod_rule_65 (hM.lo 38 (by decide)) hM.ob cl_Mod in_Mod 3 (by decide) fl_Mod_97 rfl rfl ?_
        refine z_iconst X d_Mod_rule_68 (v := 1) (by decide) ?_
        obtain ⟨b69, h⟩ := gd h
        refine z_zastM X d_Mod_rule_69 hM 12 20 rfl rfl (vp_of b69) (fun hM => ?_)
        refine z_aload_n X d_Mod_rule_70 rfl ?_
        refine z_get X (v := .ref (A 14)) d_Mod_rule_71 (hM.lo 38 (by decide)) hM.ob cl_Mod in_Mod 14 (by decide) fl_Mod_38 rfl rfl ?_
        refine z_aload_n X d_Mod_rule_74 rfl ?_
        refine z_get X (v := .int (p57.1 3)) d_Mod_rule_75 (hM.lo 38 (by decide)) hM.ob cl_Mod in_Mod 3 (by decide) fl_Mod_97 rfl rfl ?_
        refine z_iconst X d_Mod_rule_78 (v := -1) (by decide) ?_
        refine z_iastM X d_Mod_rule_79 hM 14 20 rfl rfl (vp_of b69) (fun hM => ?_)
        refine z_aload_n X d_Mod_rule_80 rfl ?_
        refine z_dup X d_Mod_rule_81 rfl ?_
        refine z_get X (v := .int (p57.1 3)) d_Mod_rule_82 (hM.lo 38 (by decide)) hM.ob cl_Mod in_Mod 3 (by decide) fl_Mod_97 rfl rfl ?_
        refine z_iconst X d_Mod_rule_85 (v := 1) (by decide) ?_
        refine z_iadd X d_Mod_rule_86 ?_
        refine z_putM X t_Mod ty_Mod n_Mod d_Mod_rule_87 hM cl_Mod in_Mod 3 (by decide) fl_Mod_97 rfl rfl rfl (by decide) rfl (fun hM => ?_)
        refine z_aload_n X d_Mod_rule_90 rfl ?_
        refine z_get X (v := .int ((p57.1 3) + 1)) d_Mod_rule_91 (hM.lo 38 (by decide)) hM.ob cl_Mod in_Mod 3 (by decide) fl_Mod_97 rfl rfl ?_
        refine z_iconst X d_Mod_rule_94 (v := 1) (by decide) ?_
        refine z_isub X d_Mod_rule_95 ?_
        have e9 := Option.some.inj h
        subst e9
        exact z_iret X d_Mod_rule_96 ⟨rfl, rfl, hM⟩
      · skip
        have h := (if_neg h41).symm.trans h
        refine z_iconst X d_Mod_rule_44 (v := -1) (by decide) ?_
        refine z_aload_n X d_Mod_rule_45 rfl ?_
        refine z_get X (v := .int (p28.2.1 27)) d_Mod_rule_46 (hM.lo 38 (by decide)) hM.ob cl_Mod in_Mod 27 (by decide) fl_Mod_128 rfl rfl ?_
        refine z_isub X d_Mod_rule_49 ?_
        have e9 := Option.some.inj h
        subst e9
        exact z_iret X d_Mod_rule_50 ⟨rfl, rfl, hM⟩
    · skip
      exact absurd h22 (by decide)
  · skip
    have h := (if_pos h7).symm.trans h
    refine z_iconst X d_Mod_rule_10 (v := 1) (by decide) ?_
    refine z_goto X 15 d_Mod_rule_11 (by decide) ?_
    refine z_putM X t_Mod ty_Mod n_Mod d_Mod_rule_15 hM cl_Mod in_Mod 0 (by decide) fl_Mod_93 rfl rfl rfl (by decide) rfl (fun hM => ?_)
    refine z_aload_n X d_Mod_rule_18 rfl ?_
    refine z_get X (v := .int 1) d_Mod_rule_19 (hM.lo 38 (by decide)) hM.ob cl_Mod in_Mod 0 (by decide) fl_Mod_93 rfl rfl ?_
    refine z_if_le X 27 d_Mod_rule_22 (by decide) (fun h22 => ?_) (fun h22 => ?_)
    · skip
      exact absurd h22 (by decide)
    · skip
      refine z_iconst X d_Mod_rule_25 (v := 0) (by decide) ?_
      have e9 := Option.some.inj h
      subst e9
      exact z_iret X d_Mod_rule_26 ⟨rfl, rfl, hM⟩
theorem d_Mod_order_0 : decode prog_10_method_25_code 0 = .ok (.aload_n 0, 1) := by decide +kernel
theorem d_Mod_order_1 : decode prog_10_method_25_code 1 = .ok (.iconst 0, 1) := by decide +kernel
theorem d_Mod_order_2 : decode prog_10_method_25_code 2 = .ok (.putfield 93, 3) := by decide +kernel
theorem d_Mod_order_5 : decode prog_10_method_25_code 5 = .ok (.aload_n 0, 1) := by decide +kernel
theorem d_Mod_order_6 : decode prog_10_method_25_code 6 = .ok (.iload_n 1, 1) := by decide +kernel
theorem d_Mod_order_7 : decode prog_10_method_25_code 7 = .ok (.invokevirtual 197, 3) := by decide +kernel
theorem d_Mod_order_10 : decode prog_10_method_25_code 10 = .ok (.ifCond .eq 13, 3) := by decide +kernel
theorem d_Mod_order_13 : decode prog_10_method_25_code 13 = .ok (.iload_n 2, 1) := by decide +kernel
theorem d_Mod_order_14 : decode prog_10_method_25_code 14 = .ok (.iconst 0, 1) := by decide +kernel
theorem d_Mod_order_15 : decode prog_10_method_25_code 15 = .ok (.bipush 9, 2) := by decide +kernel
theorem d_Mod_order_17 : decode prog_10_method_25_code 17 = .ok (.invokestatic 100, 3) := by decide +kernel
theorem d_Mod_order_20 : decode prog_10_method_25_code 20 = .ok (.ifCond .ne 5, 3) := by decide +kernel
theorem d_Mod_order_23 : decode prog_10_method_25_code 23 = .ok (.iconst 0, 1) := by decide +kernel
theorem d_Mod_order_24 : decode prog_10_method_25_code 24 = .ok (.ireturn, 1) := by decide +kernel
theorem d_Mod_order_25 : decode prog_10_method_25_code 25 = .ok (.aload_n 0, 1) := by decide +kernel
theorem d_Mod_order_26 : decode prog_10_method_25_code 26 = .ok (.getfield 28, 3) := by decide +kernel
theorem d_Mod_order_29 : decode prog_10_method_25_code 29 = .ok (.iload_n 1, 1) := by decide +kernel
theorem d_Mod_order_30 : decode prog_10_method_25_code 30 = .ok (.iload_n 2, 1) := by decide +kernel
theorem d_Mod_order_31 : decode prog_10_method_25_code 31 = .ok (.iastore, 1) := by decide +kernel
theorem d_Mod_order_32 : decode prog_10_method_25_code 32 = .ok (.aload_n 0, 1) := by decide +kernel
theorem d_Mod_order_33 : decode prog_10_method_25_code 33 = .ok (.getfield 31, 3) := by decide +kernel
theorem d_Mod_order_36 : decode prog_10_method_25_code 36 = .ok (.iload_n 1, 1) := by decide +kernel
theorem d_Mod_order_37 : decode prog_10_method_25_code 37 = .ok (.iload_n 3, 1) := by decide +kernel
theorem d_Mod_order_38 : decode prog_10_method_25_code 38 = .ok (.bastore, 1) := by decide +kernel
theorem d_Mod_order_39 : decode prog_10_method_25_code 39 = .ok (.iconst 1, 1) := by decide +kernel
theorem d_Mod_order_40 : decode prog_10_method_25_code 40 = .ok (.ireturn, 1) := by decide +kernel
def m_order (x1 x2 x3 : Int32) (μ : MS) : Option (Int32 × MS) := (m_isRule x1 (sI 0 0 μ)).bind (fun p7 => (if p7.1 = 0 then some (0, p7.2) else (m_in x2 0 9).bind (fun p17 => (if p17 = 0 then some (0, p7.2) else (if inb x1 20 = true then some (1, (sA 12 (x1.toNatClampNeg) (vp_nar .boolean x3) (sA 11 (x1.toNatClampNeg) x2 p7.2))) else none)))))
set_option maxHeartbeats 4000000 in
set_option maxRecDepth 100000 in
theorem c_Mod_order {A : Nat → Nat} {f0 : Nat → va_E} {μ : MS} {x1 x2 x3 : Int32} {res : (Int32 × MS)} (hM : zMf ck b0 N A f0 f μ) (h : m_order x1 x2 x3 μ = some res) : zK l D ck ad b0 y_Mod_order prog_10_method_25_code 4 ((some FieldType.boolean)) 1 0 0 [.ref (A 38), .int x1, .int x2, .int x3] N f (fun r N' f' => r = some (.int res.1) ∧ N = N' ∧ zMf ck b0 N A f0 f' res.2) := by
  refine zM.of zG_w (by decide) (Nat.le_of_ble_eq_true rfl) ?_
  intro zp ze zst zm zar zbe zme zc X hnm hb0
  rw [m_order] at h
  refine z_aload_n X d_Mod_order_0 rfl ?_
  refine z_iconst X d_Mod_order_1 (v := 0) (by decide) ?_
  refine z_putM X t_Mod ty_Mod n_Mod d_Mod_order_2 hM cl_Mod in_Mod 0 (by decide) fl_Mod_93 rfl rfl rfl (by decide) rfl (fun hM => ?_)
  refine z_aload_n X d_Mod_order_5 rfl ?_
  refine z_iload_n X d_Mod_order_6 rfl ?_
  obtain ⟨p7, q7, h⟩ := bd h
  refine z_callV X zG_ok (c_Mod_isRule hM q7) d_Mod_order_7 ⟨(z_cb (n := 1) X.2.2.2.2.1 ml_Mod_197 mc_Mod_isRule ini_Mod (by decide +kernel) rfl rfl ⟨Nat.le_of_ble_eq_true rfl, Nat.le_of_ble_eq_true rfl⟩), X.2.2.2.2.1 _ im_Mod_isRule, X.2.2.2.2.1 _ sel_Mod_isRule⟩ (hM.lo 38 (by decide)) hM.ob cl_Mod rfl rfl (Nat.le_of_ble_eq_true rfl) ⟨Nat.le_of_ble_eq_true rfl, Nat.le_of_ble_eq_true rfl⟩ (fun r N1 f1 hp hN1 => ?_)
  obtain ⟨rfl, rfl, hM⟩ := hp
  refine z_if_eq X 23 d_Mod_order_10 (by decide) (fun h10 => ?_) (fun h10 => ?_)
  · skip
    have h := (if_pos h10).symm.trans h
    refine z_iconst X d_Mod_order_23 (v := 0) (by decide) ?_
    have e9 := Option.some.inj h
    subst e9
    exact z_zret X d_Mod_order_24 rfl ⟨rfl, rfl, hM⟩
  · skip
    have h := (if_neg h10).symm.trans h
    refine z_iload_n X d_Mod_order_13 rfl ?_
    refine z_iconst X d_Mod_order_14 (v := 0) (by decide) ?_
    refine z_bipush X d_Mod_order_15 (v := 9) (by decide) ?_
    obtain ⟨p17, q17, h⟩ := bd h
    refine z_callS X zG_ok (c_Mod_in q17) d_Mod_order_17 ⟨(z_cb (n := 3) X.2.2.2.2.1 ml_Mod_100 mc_Mod_in ini_Mod (by decide +kernel) rfl rfl ⟨Nat.le_of_ble_eq_true rfl, Nat.le_of_ble_eq_true rfl⟩), X.2.2.2.2.1 _ st_Mod_in⟩ rfl rfl (Nat.le_of_ble_eq_true rfl) ⟨Nat.le_of_ble_eq_true rfl, Nat.le_of_ble_eq_true rfl⟩ (fun r N1 f1 hp hN1 => ?_)
    obtain ⟨rfl, rfl, rfl⟩ := hp
    refine z_if_ne X 25 d_Mod_order_20 (by decide) (fun h20 => ?_) (fun h20 => ?_)
    · skip
      have h := (if_neg h20).symm.trans h
      refine z_aload_n X d_Mod_order_25 rfl ?_
      refine z_get X (v := .ref (A 11)) d_Mod_order_26 (hM.lo 38 (by decide)) hM.ob cl_Mod in_Mod 11 (by decide) fl_Mod_28 rfl rfl ?_
      refine z_iload_n X d_Mod_order_29 rfl ?_
      refine z_iload_n X d_Mod_order_30 rfl ?_
      obtain ⟨b31, h⟩ := gd h
      refine z_iastM X d_Mod_order_31 hM 11 20 rfl rfl (vp_of b31) (fun hM => ?_)
      refine z_aload_n X d_Mod_order_32 rfl ?_
      refine z_get X (v := .ref (A 12)) d_Mod_order_33 (hM.lo 38 (by decide)) hM.ob cl_Mod in_Mod 12 (by decide) fl_Mod_31 rfl rfl ?_
      refine z_iload_n X d_Mod_order_36 rfl ?_
      refine z_iload_n X d_Mod_order_37 rfl ?_
      refine z_zastM X d_Mod_order_38 hM 12 20 rfl rfl (vp_of b31) (fun hM => ?_)
      refine z_iconst X d_Mod_order_39 (v := 1) (by decide) ?_
      have e9 := Option.some.inj h
      subst e9
      exact z_zret X d_Mod_order_40 rfl ⟨rfl, rfl, hM⟩
    · skip
      have h := (if_pos h20).symm.trans h
      refine z_iconst X d_Mod_order_23 (v := 0) (by decide) ?_
      have e9 := Option.some.inj h
      subst e9
      exact z_zret X d_Mod_order_24 rfl ⟨rfl, rfl, hM⟩
theorem d_Mod_edition_0 : decode prog_10_method_26_code 0 = .ok (.aload_n 0, 1) := by decide +kernel
theorem d_Mod_edition_1 : decode prog_10_method_26_code 1 = .ok (.iconst 0, 1) := by decide +kernel
theorem d_Mod_edition_2 : decode prog_10_method_26_code 2 = .ok (.putfield 93, 3) := by decide +kernel
theorem d_Mod_edition_5 : decode prog_10_method_26_code 5 = .ok (.aload_n 0, 1) := by decide +kernel
theorem d_Mod_edition_6 : decode prog_10_method_26_code 6 = .ok (.iload_n 1, 1) := by decide +kernel
theorem d_Mod_edition_7 : decode prog_10_method_26_code 7 = .ok (.invokevirtual 197, 3) := by decide +kernel
theorem d_Mod_edition_10 : decode prog_10_method_26_code 10 = .ok (.ifCond .eq 13, 3) := by decide +kernel
theorem d_Mod_edition_13 : decode prog_10_method_26_code 13 = .ok (.iload_n 2, 1) := by decide +kernel
theorem d_Mod_edition_14 : decode prog_10_method_26_code 14 = .ok (.iconst 0, 1) := by decide +kernel
theorem d_Mod_edition_15 : decode prog_10_method_26_code 15 = .ok (.ldc 200, 2) := by decide +kernel
theorem d_Mod_edition_17 : decode prog_10_method_26_code 17 = .ok (.invokestatic 100, 3) := by decide +kernel
theorem d_Mod_edition_20 : decode prog_10_method_26_code 20 = .ok (.ifCond .ne 5, 3) := by decide +kernel
theorem d_Mod_edition_23 : decode prog_10_method_26_code 23 = .ok (.iconst 0, 1) := by decide +kernel
theorem d_Mod_edition_24 : decode prog_10_method_26_code 24 = .ok (.ireturn, 1) := by decide +kernel
theorem d_Mod_edition_25 : decode prog_10_method_26_code 25 = .ok (.aload_n 0, 1) := by decide +kernel
theorem d_Mod_edition_26 : decode prog_10_method_26_code 26 = .ok (.getfield 35, 3) := by decide +kernel
theorem d_Mod_edition_29 : decode prog_10_method_26_code 29 = .ok (.iload_n 1, 1) := by decide +kernel
theorem d_Mod_edition_30 : decode prog_10_method_26_code 30 = .ok (.iload_n 2, 1) := by decide +kernel
theorem d_Mod_edition_31 : decode prog_10_method_26_code 31 = .ok (.iastore, 1) := by decide +kernel
theorem d_Mod_edition_32 : decode prog_10_method_26_code 32 = .ok (.iconst 1, 1) := by decide +kernel
theorem d_Mod_edition_33 : decode prog_10_method_26_code 33 = .ok (.ireturn, 1) := by decide +kernel
def m_edition (x1 x2 : Int32) (μ : MS) : Option (Int32 × MS) := (m_isRule x1 (sI 0 0 μ)).bind (fun p7 => (if p7.1 = 0 then some (0, p7.2) else (m_in x2 0 100000).bind (fun p17 => (if p17 = 0 then some (0, p7.2) else (if inb x1 20 = true then some (1, (sA 13 (x1.toNatClampNeg) x2 p7.2)) else none)))))
set_option maxHeartbeats 4000000 in
set_option maxRecDepth 100000 in
theorem c_Mod_edition {A : Nat → Nat} {f0 : Nat → va_E} {μ : MS} {x1 x2 : Int32} {res : (Int32 × MS)} (hM : zMf ck b0 N A f0 f μ) (h : m_edition x1 x2 μ = some res) : zK l D ck ad b0 y_Mod_edition prog_10_method_26_code 3 ((some FieldType.boolean)) 1 0 0 [.ref (A 38), .int x1, .int x2] N f (fun r N' f' => r = some (.int res.1) ∧ N = N' ∧ zMf ck b0 N A f0 f' res.2) := by
  refine zM.of zG_w (by decide) (Nat.le_of_ble_eq_true rfl) ?_
  intro zp ze zst zm zar zbe zme zc X hnm hb0
  rw [m_edition] at h
  refine z_aload_n X d_Mod_edition_0 rfl ?_
  refine z_iconst X d_Mod_edition_1 (v := 0) (by decide) ?_
  refine z_putM X t_Mod ty_Mod n_Mod d_Mod_edition_2 hM cl_Mod in_Mod 0 (by decide) fl_Mod_93 rfl rfl rfl (by decide) rfl (fun hM => ?_)
  refine z_aload_n X d_Mod_edition_5 rfl ?_
  refine z_iload_n X d_Mod_edition_6 rfl ?_
  obtain ⟨p7, q7, h⟩ := bd h
  refine z_callV X zG_ok (c_Mod_isRule hM q7) d_Mod_edition_7 ⟨(z_cb (n := 1) X.2.2.2.2.1 ml_Mod_197 mc_Mod_isRule ini_Mod (by decide +kernel) rfl rfl ⟨Nat.le_of_ble_eq_true rfl, Nat.le_of_ble_eq_true rfl⟩), X.2.2.2.2.1 _ im_Mod_isRule, X.2.2.2.2.1 _ sel_Mod_isRule⟩ (hM.lo 38 (by decide)) hM.ob cl_Mod rfl rfl (Nat.le_of_ble_eq_true rfl) ⟨Nat.le_of_ble_eq_true rfl, Nat.le_of_ble_eq_true rfl⟩ (fun r N1 f1 hp hN1 => ?_)
  obtain ⟨rfl, rfl, hM⟩ := hp
  refine z_if_eq X 23 d_Mod_edition_10 (by decide) (fun h10 => ?_) (fun h10 => ?_)
  · skip
    have h := (if_pos h10).symm.trans h
    refine z_iconst X d_Mod_edition_23 (v := 0) (by decide) ?_
    have e9 := Option.some.inj h
    subst e9
    exact z_zret X d_Mod_edition_24 rfl ⟨rfl, rfl, hM⟩
  · skip
    have h := (if_neg h10).symm.trans h
    refine z_iload_n X d_Mod_edition_13 rfl ?_
    refine z_iconst X d_Mod_edition_14 (v := 0) (by decide) ?_
    refine z_ldc X d_Mod_edition_15 k_Mod_200 ?_
    obtain ⟨p17, q17, h⟩ := bd h
    refine z_callS X zG_ok (c_Mod_in q17) d_Mod_edition_17 ⟨(z_cb (n := 3) X.2.2.2.2.1 ml_Mod_100 mc_Mod_in ini_Mod (by decide +kernel) rfl rfl ⟨Nat.le_of_ble_eq_true rfl, Nat.le_of_ble_eq_true rfl⟩), X.2.2.2.2.1 _ st_Mod_in⟩ rfl rfl (Nat.le_of_ble_eq_true rfl) ⟨Nat.le_of_ble_eq_true rfl, Nat.le_of_ble_eq_true rfl⟩ (fun r N1 f1 hp hN1 => ?_)
    obtain ⟨rfl, rfl, rfl⟩ := hp
    refine z_if_ne X 25 d_Mod_edition_20 (by decide) (fun h20 => ?_) (fun h20 => ?_)
    · skip
      have h := (if_neg h20).symm.trans h
      refine z_aload_n X d_Mod_edition_25 rfl ?_
      refine z_get X (v := .ref (A 13)) d_Mod_edition_26 (hM.lo 38 (by decide)) hM.ob cl_Mod in_Mod 13 (by decide) fl_Mod_35 rfl rfl ?_
      refine z_iload_n X d_Mod_edition_29 rfl ?_
      refine z_iload_n X d_Mod_edition_30 rfl ?_
      obtain ⟨b31, h⟩ := gd h
      refine z_iastM X d_Mod_edition_31 hM 13 20 rfl rfl (vp_of b31) (fun hM => ?_)
      refine z_iconst X d_Mod_edition_32 (v := 1) (by decide) ?_
      have e9 := Option.some.inj h
      subst e9
      exact z_zret X d_Mod_edition_33 rfl ⟨rfl, rfl, hM⟩
    · skip
      have h := (if_pos h20).symm.trans h
      refine z_iconst X d_Mod_edition_23 (v := 0) (by decide) ?_
      have e9 := Option.some.inj h
      subst e9
      exact z_zret X d_Mod_edition_24 rfl ⟨rfl, rfl, hM⟩
theorem d_Mod_day_0 : decode prog_10_method_27_code 0 = .ok (.aload_n 0, 1) := by decide +kernel
theorem d_Mod_day_1 : decode prog_10_method_27_code 1 = .ok (.iconst 0, 1) := by decide +kernel
theorem d_Mod_day_2 : decode prog_10_method_27_code 2 = .ok (.putfield 93, 3) := by decide +kernel
theorem d_Mod_day_5 : decode prog_10_method_27_code 5 = .ok (.iload_n 1, 1) := by decide +kernel
theorem d_Mod_day_6 : decode prog_10_method_27_code 6 = .ok (.iconst 0, 1) := by decide +kernel
theorem d_Mod_day_7 : decode prog_10_method_27_code 7 = .ok (.ldc 200, 2) := by decide +kernel
theorem d_Mod_day_9 : decode prog_10_method_27_code 9 = .ok (.invokestatic 100, 3) := by decide +kernel
theorem d_Mod_day_12 : decode prog_10_method_27_code 12 = .ok (.ifCond .ne 5, 3) := by decide +kernel
theorem d_Mod_day_15 : decode prog_10_method_27_code 15 = .ok (.iconst 0, 1) := by decide +kernel
theorem d_Mod_day_16 : decode prog_10_method_27_code 16 = .ok (.ireturn, 1) := by decide +kernel
theorem d_Mod_day_17 : decode prog_10_method_27_code 17 = .ok (.aload_n 0, 1) := by decide +kernel
theorem d_Mod_day_18 : decode prog_10_method_27_code 18 = .ok (.iload_n 1, 1) := by decide +kernel
theorem d_Mod_day_19 : decode prog_10_method_27_code 19 = .ok (.putfield 201, 3) := by decide +kernel
theorem d_Mod_day_22 : decode prog_10_method_27_code 22 = .ok (.iconst 1, 1) := by decide +kernel
theorem d_Mod_day_23 : decode prog_10_method_27_code 23 = .ok (.ireturn, 1) := by decide +kernel
def m_day (x1 : Int32) (μ : MS) : Option (Int32 × MS) := (m_in x1 0 100000).bind (fun p9 => (if p9 = 0 then some (0, (sI 0 0 μ)) else some (1, (sI 5 x1 (sI 0 0 μ)))))
set_option maxHeartbeats 4000000 in
set_option maxRecDepth 100000 in
theorem c_Mod_day {A : Nat → Nat} {f0 : Nat → va_E} {μ : MS} {x1 : Int32} {res : (Int32 × MS)} (hM : zMf ck b0 N A f0 f μ) (h : m_day x1 μ = some res) : zK l D ck ad b0 y_Mod_day prog_10_method_27_code 2 ((some FieldType.boolean)) 1 0 0 [.ref (A 38), .int x1] N f (fun r N' f' => r = some (.int res.1) ∧ N = N' ∧ zMf ck b0 N A f0 f' res.2) := by
  refine zM.of zG_w (by decide) (Nat.le_of_ble_eq_true rfl) ?_
  intro zp ze zst zm zar zbe zme zc X hnm hb0
  rw [m_day] at h
  refine z_aload_n X d_Mod_day_0 rfl ?_
  refine z_iconst X d_Mod_day_1 (v := 0) (by decide) ?_
  refine z_putM X t_Mod ty_Mod n_Mod d_Mod_day_2 hM cl_Mod in_Mod 0 (by decide) fl_Mod_93 rfl rfl rfl (by decide) rfl (fun hM => ?_)
  refine z_iload_n X d_Mod_day_5 rfl ?_
  refine z_iconst X d_Mod_day_6 (v := 0) (by decide) ?_
  refine z_ldc X d_Mod_day_7 k_Mod_200 ?_
  obtain ⟨p9, q9, h⟩ := bd h
  refine z_callS X zG_ok (c_Mod_in q9) d_Mod_day_9 ⟨(z_cb (n := 3) X.2.2.2.2.1 ml_Mod_100 mc_Mod_in ini_Mod (by decide +kernel) rfl rfl ⟨Nat.le_of_ble_eq_true rfl, Nat.le_of_ble_eq_true rfl⟩), X.2.2.2.2.1 _ st_Mod_in⟩ rfl rfl (Nat.le_of_ble_eq_true rfl) ⟨Nat.le_of_ble_eq_true rfl, Nat.le_of_ble_eq_true rfl⟩ (fun r N1 f1 hp hN1 => ?_)
  obtain ⟨rfl, rfl, rfl⟩ := hp
  refine z_if_ne X 17 d_Mod_day_12 (by decide) (fun h12 => ?_) (fun h12 => ?_)
  · skip
    have h := (if_neg h12).symm.trans h
    refine z_aload_n X d_Mod_day_17 rfl ?_
    refine z_iload_n X d_Mod_day_18 rfl ?_
    refine z_putM X t_Mod ty_Mod n_Mod d_Mod_day_19 hM cl_Mod in_Mod 5 (by decide) fl_Mod_201 rfl rfl rfl (by decide) rfl (fun hM => ?_)
    refine z_iconst X d_Mod_day_22 (v := 1) (by decide) ?_
    have e9 := Option.some.inj h
    subst e9
    exact z_zret X d_Mod_day_23 rfl ⟨rfl, rfl, hM⟩
  · skip
    have h := (if_pos h12).symm.trans h
    refine z_iconst X d_Mod_day_15 (v := 0) (by decide) ?_
    have e9 := Option.some.inj h
    subst e9
    exact z_zret X d_Mod_day_16 rfl ⟨rfl, rfl, hM⟩
theorem d_Mod_field2_0 : decode prog_10_method_28_code 0 = .ok (.aload_n 0, 1) := by decide +kernel
theorem d_Mod_field2_1 : decode prog_10_method_28_code 1 = .ok (.iconst 0, 1) := by decide +kernel
theorem d_Mod_field2_2 : decode prog_10_method_28_code 2 = .ok (.putfield 93, 3) := by decide +kernel
theorem d_Mod_field2_5 : decode prog_10_method_28_code 5 = .ok (.iload_n 1, 1) := by decide +kernel
theorem d_Mod_field2_6 : decode prog_10_method_28_code 6 = .ok (.iconst 0, 1) := by decide +kernel
theorem d_Mod_field2_7 : decode prog_10_method_28_code 7 = .ok (.bipush 19, 2) := by decide +kernel
theorem d_Mod_field2_9 : decode prog_10_method_28_code 9 = .ok (.invokestatic 100, 3) := by decide +kernel
theorem d_Mod_field2_12 : decode prog_10_method_28_code 12 = .ok (.ifCond .eq 24, 3) := by decide +kernel
theorem d_Mod_field2_15 : decode prog_10_method_28_code 15 = .ok (.iload_n 2, 1) := by decide +kernel
theorem d_Mod_field2_16 : decode prog_10_method_28_code 16 = .ok (.iconst 0, 1) := by decide +kernel
theorem d_Mod_field2_17 : decode prog_10_method_28_code 17 = .ok (.bipush 9, 2) := by decide +kernel
theorem d_Mod_field2_19 : decode prog_10_method_28_code 19 = .ok (.invokestatic 100, 3) := by decide +kernel
theorem d_Mod_field2_22 : decode prog_10_method_28_code 22 = .ok (.ifCond .eq 14, 3) := by decide +kernel
theorem d_Mod_field2_25 : decode prog_10_method_28_code 25 = .ok (.iload_n 3, 1) := by decide +kernel
theorem d_Mod_field2_26 : decode prog_10_method_28_code 26 = .ok (.ldc 204, 2) := by decide +kernel
theorem d_Mod_field2_28 : decode prog_10_method_28_code 28 = .ok (.ldc 205, 2) := by decide +kernel
theorem d_Mod_field2_30 : decode prog_10_method_28_code 30 = .ok (.invokestatic 100, 3) := by decide +kernel
theorem d_Mod_field2_33 : decode prog_10_method_28_code 33 = .ok (.ifCond .ne 5, 3) := by decide +kernel
theorem d_Mod_field2_36 : decode prog_10_method_28_code 36 = .ok (.iconst 0, 1) := by decide +kernel
theorem d_Mod_field2_37 : decode prog_10_method_28_code 37 = .ok (.ireturn, 1) := by decide +kernel
theorem d_Mod_field2_38 : decode prog_10_method_28_code 38 = .ok (.aload_n 0, 1) := by decide +kernel
theorem d_Mod_field2_39 : decode prog_10_method_28_code 39 = .ok (.getfield 50, 3) := by decide +kernel
theorem d_Mod_field2_42 : decode prog_10_method_28_code 42 = .ok (.bipush 10, 2) := by decide +kernel
theorem d_Mod_field2_44 : decode prog_10_method_28_code 44 = .ok (.iload_n 1, 1) := by decide +kernel
theorem d_Mod_field2_45 : decode prog_10_method_28_code 45 = .ok (.imul, 1) := by decide +kernel
theorem d_Mod_field2_46 : decode prog_10_method_28_code 46 = .ok (.iload_n 2, 1) := by decide +kernel
theorem d_Mod_field2_47 : decode prog_10_method_28_code 47 = .ok (.iadd, 1) := by decide +kernel
theorem d_Mod_field2_48 : decode prog_10_method_28_code 48 = .ok (.iload_n 3, 1) := by decide +kernel
theorem d_Mod_field2_49 : decode prog_10_method_28_code 49 = .ok (.iastore, 1) := by decide +kernel
theorem d_Mod_field2_50 : decode prog_10_method_28_code 50 = .ok (.aload_n 0, 1) := by decide +kernel
theorem d_Mod_field2_51 : decode prog_10_method_28_code 51 = .ok (.getfield 53, 3) := by decide +kernel
theorem d_Mod_field2_54 : decode prog_10_method_28_code 54 = .ok (.bipush 10, 2) := by decide +kernel
theorem d_Mod_field2_56 : decode prog_10_method_28_code 56 = .ok (.iload_n 1, 1) := by decide +kernel
theorem d_Mod_field2_57 : decode prog_10_method_28_code 57 = .ok (.imul, 1) := by decide +kernel
theorem d_Mod_field2_58 : decode prog_10_method_28_code 58 = .ok (.iload_n 2, 1) := by decide +kernel
theorem d_Mod_field2_59 : decode prog_10_method_28_code 59 = .ok (.iadd, 1) := by decide +kernel
theorem d_Mod_field2_60 : decode prog_10_method_28_code 60 = .ok (.iconst 1, 1) := by decide +kernel
theorem d_Mod_field2_61 : decode prog_10_method_28_code 61 = .ok (.bastore, 1) := by decide +kernel
theorem d_Mod_field2_62 : decode prog_10_method_28_code 62 = .ok (.iconst 1, 1) := by decide +kernel
theorem d_Mod_field2_63 : decode prog_10_method_28_code 63 = .ok (.ireturn, 1) := by decide +kernel
def m_field2 (x1 x2 x3 : Int32) (μ : MS) : Option (Int32 × MS) := (m_in x1 0 19).bind (fun p9 => (if p9 = 0 then some (0, (sI 0 0 μ)) else (m_in x2 0 9).bind (fun p19 => (if p19 = 0 then some (0, (sI 0 0 μ)) else (m_in x3 (-1000000) 1000000).bind (fun p30 => (if p30 = 0 then some (0, (sI 0 0 μ)) else (if inb ((10 * x1) + x2) 200 = true then some (1, (sA 19 (((10 * x1) + x2).toNatClampNeg) (vp_nar .boolean 1) (sA 18 (((10 * x1) + x2).toNatClampNeg) x3 (sI 0 0 μ)))) else none)))))))
set_option maxHeartbeats 4000000 in
set_option maxRecDepth 100000 in
theorem c_Mod_field2 {A : Nat → Nat} {f0 : Nat → va_E} {μ : MS} {x1 x2 x3 : Int32} {res : (Int32 × MS)} (hM : zMf ck b0 N A f0 f μ) (h : m_field2 x1 x2 x3 μ = some res) : zK l D ck ad b0 y_Mod_field2 prog_10_method_28_code 4 ((some FieldType.boolean)) 1 0 0 [.ref (A 38), .int x1, .int x2, .int x3] N f (fun r N' f' => r = some (.int res.1) ∧ N = N' ∧ zMf ck b0 N A f0 f' res.2) := by
  refine zM.of zG_w (by decide) (Nat.le_of_ble_eq_true rfl) ?_
  intro zp ze zst zm zar zbe zme zc X hnm hb0
  rw [m_field2] at h
  refine z_aload_n X d_Mod_field2_0 rfl ?_
  refine z_iconst X d_Mod_field2_1 (v := 0) (by decide) ?_
  refine z_putM X t_Mod ty_Mod n_Mod d_Mod_field2_2 hM cl_Mod in_Mod 0 (by decide) fl_Mod_93 rfl rfl rfl (by decide) rfl (fun hM => ?_)
  refine z_iload_n X d_Mod_field2_5 rfl ?_
  refine z_iconst X d_Mod_field2_6 (v := 0) (by decide) ?_
  refine z_bipush X d_Mod_field2_7 (v := 19) (by decide) ?_
  obtain ⟨p9, q9, h⟩ := bd h
  refine z_callS X zG_ok (c_Mod_in q9) d_Mod_field2_9 ⟨(z_cb (n := 3) X.2.2.2.2.1 ml_Mod_100 mc_Mod_in ini_Mod (by decide +kernel) rfl rfl ⟨Nat.le_of_ble_eq_true rfl, Nat.le_of_ble_eq_true rfl⟩), X.2.2.2.2.1 _ st_Mod_in⟩ rfl rfl (Nat.le_of_ble_eq_true rfl) ⟨Nat.le_of_ble_eq_true rfl, Nat.le_of_ble_eq_true rfl⟩ (fun r N1 f1 hp hN1 => ?_)
  obtain ⟨rfl, rfl, rfl⟩ := hp
  refine z_if_eq X 36 d_Mod_field2_12 (by decide) (fun h12 => ?_) (fun h12 => ?_)
  · skip
    have h := (if_pos h12).symm.trans h
    refine z_iconst X d_Mod_field2_36 (v := 0) (by decide) ?_
    have e9 := Option.some.inj h
    subst e9
    exact z_zret X d_Mod_field2_37 rfl ⟨rfl, rfl, hM⟩
  · skip
    have h := (if_neg h12).symm.trans h
    refine z_iload_n X d_Mod_field2_15 rfl ?_
    refine z_iconst X d_Mod_field2_16 (v := 0) (by decide) ?_
    refine z_bipush X d_Mod_field2_17 (v := 9) (by decide) ?_
    obtain ⟨p19, q19, h⟩ := bd h
    refine z_callS X zG_ok (c_Mod_in q19) d_Mod_field2_19 ⟨(z_cb (n := 3) X.2.2.2.2.1 ml_Mod_100 mc_Mod_in ini_Mod (by decide +kernel) rfl rfl ⟨Nat.le_of_ble_eq_true rfl, Nat.le_of_ble_eq_true rfl⟩), X.2.2.2.2.1 _ st_Mod_in⟩ rfl rfl (Nat.le_of_ble_eq_true rfl) ⟨Nat.le_of_ble_eq_true rfl, Nat.le_of_ble_eq_true rfl⟩ (fun r N1 f1 hp hN1 => ?_)
    obtain ⟨rfl, rfl, rfl⟩ := hp
    refine z_if_eq X 36 d_Mod_field2_22 (by decide) (fun h22 => ?_) (fun h22 => ?_)
    · skip
      have h := (if_pos h22).symm.trans h
      refine z_iconst X d_Mod_field2_36 (v := 0) (by decide) ?_
      have e9 := Option.some.inj h
      subst e9
      exact z_zret X d_Mod_field2_37 rfl ⟨rfl, rfl, hM⟩
    · skip
      have h := (if_neg h22).symm.trans h
      refine z_iload_n X d_Mod_field2_25 rfl ?_
      refine z_ldc X d_Mod_field2_26 k_Mod_204 ?_
      refine z_ldc X d_Mod_field2_28 k_Mod_205 ?_
      obtain ⟨p30, q30, h⟩ := bd h
      refine z_callS X zG_ok (c_Mod_in q30) d_Mod_field2_30 ⟨(z_cb (n := 3) X.2.2.2.2.1 ml_Mod_100 mc_Mod_in ini_Mod (by decide +kernel) rfl rfl ⟨Nat.le_of_ble_eq_true rfl, Nat.le_of_ble_eq_true rfl⟩), X.2.2.2.2.1 _ st_Mod_in⟩ rfl rfl (Nat.le_of_ble_eq_true rfl) ⟨Nat.le_of_ble_eq_true rfl, Nat.le_of_ble_eq_true rfl⟩ (fun r N1 f1 hp hN1 => ?_)
      obtain ⟨rfl, rfl, rfl⟩ := hp
      refine z_if_ne X 38 d_Mod_field2_33 (by decide) (fun h33 => ?_) (fun h33 => ?_)
      · skip
        have h := (if_neg h33).symm.trans h
        refine z_aload_n X d_Mod_field2_38 rfl ?_
        refine z_get X (v := .ref (A 18)) d_Mod_field2_39 (hM.lo 38 (by decide)) hM.ob cl_Mod in_Mod 18 (by decide) fl_Mod_50 rfl rfl ?_
        refine z_bipush X d_Mod_field2_42 (v := 10) (by decide) ?_
        refine z_iload_n X d_Mod_field2_44 rfl ?_
        refine z_imul X d_Mod_field2_45 ?_
        refine z_iload_n X d_Mod_field2_46 rfl ?_
        refine z_iadd X d_Mod_field2_47 ?_
        refine z_iload_n X d_Mod_field2_48 rfl ?_
        obtain ⟨b49, h⟩ := gd h
        refine z_iastM X d_Mod_field2_49 hM 18 200 rfl rfl (vp_of b49) (fun hM => ?_)
        refine z_aload_n X d_Mod_field2_50 rfl ?_
        refine z_get X (v := .ref (A 19)) d_Mod_field2_51 (hM.lo 38 (by decide)) hM.ob cl_Mod in_Mod 19 (by decide) fl_Mod_53 rfl rfl ?_
        refine z_bipush X d_Mod_field2_54 (v := 10) (by decide) ?_
        refine z_iload_n X d_Mod_field2_56 rfl ?_
        refine z_imul X d_Mod_field2_57 ?_
        refine z_iload_n X d_Mod_field2_58 rfl ?_
        refine z_iadd X d_Mod_field2_59 ?_
        refine z_iconst X d_Mod_field2_60 (v := 1) (by decide) ?_
        refine z_zastM X d_Mod_field2_61 hM 19 200 rfl rfl (vp_of b49) (fun hM => ?_)
        refine z_iconst X d_Mod_field2_62 (v := 1) (by decide) ?_
        have e9 := Option.some.inj h
        subst e9
        exact z_zret X d_Mod_field2_63 rfl ⟨rfl, rfl, hM⟩
      · skip
        have h := (if_pos h33).symm.trans h
        refine z_iconst X d_Mod_field2_36 (v := 0) (by decide) ?_
        have e9 := Option.some.inj h
        subst e9
        exact z_zret X d_Mod_field2_37 rfl ⟨rfl, rfl, hM⟩
theorem d_Mod_without_0 : decode prog_10_method_29_code 0 = .ok (.aload_n 0, 1) := by decide +kernel
theorem d_Mod_without_1 : decode prog_10_method_29_code 1 = .ok (.iconst 0, 1) := by decide +kernel
theorem d_Mod_without_2 : decode prog_10_method_29_code 2 = .ok (.putfield 93, 3) := by decide +kernel
theorem d_Mod_without_5 : decode prog_10_method_29_code 5 = .ok (.iload_n 1, 1) := by decide +kernel
theorem d_Mod_without_6 : decode prog_10_method_29_code 6 = .ok (.iconst 0, 1) := by decide +kernel
theorem d_Mod_without_7 : decode prog_10_method_29_code 7 = .ok (.bipush 19, 2) := by decide +kernel
theorem d_Mod_without_9 : decode prog_10_method_29_code 9 = .ok (.invokestatic 100, 3) := by decide +kernel
theorem d_Mod_without_12 : decode prog_10_method_29_code 12 = .ok (.ifCond .eq 27, 3) := by decide +kernel
theorem d_Mod_without_15 : decode prog_10_method_29_code 15 = .ok (.iload_n 2, 1) := by decide +kernel
theorem d_Mod_without_16 : decode prog_10_method_29_code 16 = .ok (.iconst 0, 1) := by decide +kernel
theorem d_Mod_without_17 : decode prog_10_method_29_code 17 = .ok (.bipush 9, 2) := by decide +kernel
theorem d_Mod_without_19 : decode prog_10_method_29_code 19 = .ok (.invokestatic 100, 3) := by decide +kernel
theorem d_Mod_without_22 : decode prog_10_method_29_code 22 = .ok (.ifCond .eq 17, 3) := by decide +kernel
theorem d_Mod_without_25 : decode prog_10_method_29_code 25 = .ok (.aload_n 0, 1) := by decide +kernel
theorem d_Mod_without_26 : decode prog_10_method_29_code 26 = .ok (.getfield 53, 3) := by decide +kernel
theorem d_Mod_without_29 : decode prog_10_method_29_code 29 = .ok (.bipush 10, 2) := by decide +kernel
theorem d_Mod_without_31 : decode prog_10_method_29_code 31 = .ok (.iload_n 1, 1) := by decide +kernel
theorem d_Mod_without_32 : decode prog_10_method_29_code 32 = .ok (.imul, 1) := by decide +kernel
theorem d_Mod_without_33 : decode prog_10_method_29_code 33 = .ok (.iload_n 2, 1) := by decide +kernel
theorem d_Mod_without_34 : decode prog_10_method_29_code 34 = .ok (.iadd, 1) := by decide +kernel
theorem d_Mod_without_35 : decode prog_10_method_29_code 35 = .ok (.baload, 1) := by decide +kernel
theorem d_Mod_without_36 : decode prog_10_method_29_code 36 = .ok (.ifCond .ne 5, 3) := by decide +kernel
theorem d_Mod_without_39 : decode prog_10_method_29_code 39 = .ok (.iconst 0, 1) := by decide +kernel
theorem d_Mod_without_40 : decode prog_10_method_29_code 40 = .ok (.ireturn, 1) := by decide +kernel
theorem d_Mod_without_41 : decode prog_10_method_29_code 41 = .ok (.aload_n 0, 1) := by decide +kernel
theorem d_Mod_without_42 : decode prog_10_method_29_code 42 = .ok (.getfield 53, 3) := by decide +kernel
theorem d_Mod_without_45 : decode prog_10_method_29_code 45 = .ok (.bipush 10, 2) := by decide +kernel
theorem d_Mod_without_47 : decode prog_10_method_29_code 47 = .ok (.iload_n 1, 1) := by decide +kernel
theorem d_Mod_without_48 : decode prog_10_method_29_code 48 = .ok (.imul, 1) := by decide +kernel
theorem d_Mod_without_49 : decode prog_10_method_29_code 49 = .ok (.iload_n 2, 1) := by decide +kernel
theorem d_Mod_without_50 : decode prog_10_method_29_code 50 = .ok (.iadd, 1) := by decide +kernel
theorem d_Mod_without_51 : decode prog_10_method_29_code 51 = .ok (.iconst 0, 1) := by decide +kernel
theorem d_Mod_without_52 : decode prog_10_method_29_code 52 = .ok (.bastore, 1) := by decide +kernel
theorem d_Mod_without_53 : decode prog_10_method_29_code 53 = .ok (.iconst 1, 1) := by decide +kernel
theorem d_Mod_without_54 : decode prog_10_method_29_code 54 = .ok (.ireturn, 1) := by decide +kernel
def m_without (x1 x2 : Int32) (μ : MS) : Option (Int32 × MS) := (m_in x1 0 19).bind (fun p9 => (if p9 = 0 then some (0, (sI 0 0 μ)) else (m_in x2 0 9).bind (fun p19 => (if p19 = 0 then some (0, (sI 0 0 μ)) else (if inb ((10 * x1) + x2) 200 = true then (if ((μ.2.1 19) ((10 * x1) + x2).toNatClampNeg) = 0 then some (0, (sI 0 0 μ)) else some (1, (sA 19 (((10 * x1) + x2).toNatClampNeg) (vp_nar .boolean 0) (sI 0 0 μ)))) else none)))))
set_option maxHeartbeats 4000000 in
set_option maxRecDepth 100000 in
theorem c_Mod_without {A : Nat → Nat} {f0 : Nat → va_E} {μ : MS} {x1 x2 : Int32} {res : (Int32 × MS)} (hM : zMf ck b0 N A f0 f μ) (h : m_without x1 x2 μ = some res) : zK l D ck ad b0 y_Mod_without prog_10_method_29_code 3 ((some FieldType.boolean)) 1 0 0 [.ref (A 38), .int x1, .int x2] N f (fun r N' f' => r = some (.int res.1) ∧ N = N' ∧ zMf ck b0 N A f0 f' res.2) := by
  refine zM.of zG_w (by decide) (Nat.le_of_ble_eq_true rfl) ?_
  intro zp ze zst zm zar zbe zme zc X hnm hb0
  rw [m_without] at h
  refine z_aload_n X d_Mod_without_0 rfl ?_
  refine z_iconst X d_Mod_without_1 (v := 0) (by decide) ?_
  refine z_putM X t_Mod ty_Mod n_Mod d_Mod_without_2 hM cl_Mod in_Mod 0 (by decide) fl_Mod_93 rfl rfl rfl (by decide) rfl (fun hM => ?_)
  refine z_iload_n X d_Mod_without_5 rfl ?_
  refine z_iconst X d_Mod_without_6 (v := 0) (by decide) ?_
  refine z_bipush X d_Mod_without_7 (v := 19) (by decide) ?_
  obtain ⟨p9, q9, h⟩ := bd h
  refine z_callS X zG_ok (c_Mod_in q9) d_Mod_without_9 ⟨(z_cb (n := 3) X.2.2.2.2.1 ml_Mod_100 mc_Mod_in ini_Mod (by decide +kernel) rfl rfl ⟨Nat.le_of_ble_eq_true rfl, Nat.le_of_ble_eq_true rfl⟩), X.2.2.2.2.1 _ st_Mod_in⟩ rfl rfl (Nat.le_of_ble_eq_true rfl) ⟨Nat.le_of_ble_eq_true rfl, Nat.le_of_ble_eq_true rfl⟩ (fun r N1 f1 hp hN1 => ?_)
  obtain ⟨rfl, rfl, rfl⟩ := hp
  refine z_if_eq X 39 d_Mod_without_12 (by decide) (fun h12 => ?_) (fun h12 => ?_)
  · skip
    have h := (if_pos h12).symm.trans h
    refine z_iconst X d_Mod_without_39 (v := 0) (by decide) ?_
    have e9 := Option.some.inj h
    subst e9
    exact z_zret X d_Mod_without_40 rfl ⟨rfl, rfl, hM⟩
  · skip
    have h := (if_neg h12).symm.trans h
    refine z_iload_n X d_Mod_without_15 rfl ?_
    refine z_iconst X d_Mod_without_16 (v := 0) (by decide) ?_
    refine z_bipush X d_Mod_without_17 (v := 9) (by decide) ?_
    obtain ⟨p19, q19, h⟩ := bd h
    refine z_callS X zG_ok (c_Mod_in q19) d_Mod_without_19 ⟨(z_cb (n := 3) X.2.2.2.2.1 ml_Mod_100 mc_Mod_in ini_Mod (by decide +kernel) rfl rfl ⟨Nat.le_of_ble_eq_true rfl, Nat.le_of_ble_eq_true rfl⟩), X.2.2.2.2.1 _ st_Mod_in⟩ rfl rfl (Nat.le_of_ble_eq_true rfl) ⟨Nat.le_of_ble_eq_true rfl, Nat.le_of_ble_eq_true rfl⟩ (fun r N1 f1 hp hN1 => ?_)
    obtain ⟨rfl, rfl, rfl⟩ := hp
    refine z_if_eq X 39 d_Mod_without_22 (by decide) (fun h22 => ?_) (fun h22 => ?_)
    · skip
      have h := (if_pos h22).symm.trans h
      refine z_iconst X d_Mod_without_39 (v := 0) (by decide) ?_
      have e9 := Option.some.inj h
      subst e9
      exact z_zret X d_Mod_without_40 rfl ⟨rfl, rfl, hM⟩
    · skip
      have h := (if_neg h22).symm.trans h
      refine z_aload_n X d_Mod_without_25 rfl ?_
      refine z_get X (v := .ref (A 19)) d_Mod_without_26 (hM.lo 38 (by decide)) hM.ob cl_Mod in_Mod 19 (by decide) fl_Mod_53 rfl rfl ?_
      refine z_bipush X d_Mod_without_29 (v := 10) (by decide) ?_
      refine z_iload_n X d_Mod_without_31 rfl ?_
      refine z_imul X d_Mod_without_32 ?_
      refine z_iload_n X d_Mod_without_33 rfl ?_
      refine z_iadd X d_Mod_without_34 ?_
      obtain ⟨b35, h⟩ := gd h
      refine z_zald X (g := (μ.2.1 19)) d_Mod_without_35 (hM.lo 19 (by decide)) (hM.zA 19 200 rfl) (t0 := 1) rfl (vp_of b35) ?_
      refine z_if_ne X 41 d_Mod_without_36 (by decide) (fun h36 => ?_) (fun h36 => ?_)
      · skip
        have h := (if_neg h36).symm.trans h
        refine z_aload_n X d_Mod_without_41 rfl ?_
        refine z_get X (v := .ref (A 19)) d_Mod_without_42 (hM.lo 38 (by decide)) hM.ob cl_Mod in_Mod 19 (by decide) fl_Mod_53 rfl rfl ?_
        refine z_bipush X d_Mod_without_45 (v := 10) (by decide) ?_
        refine z_iload_n X d_Mod_without_47 rfl ?_
        refine z_imul X d_Mod_without_48 ?_
        refine z_iload_n X d_Mod_without_49 rfl ?_
        refine z_iadd X d_Mod_without_50 ?_
        refine z_iconst X d_Mod_without_51 (v := 0) (by decide) ?_
        refine z_zastM X d_Mod_without_52 hM 19 200 rfl rfl (vp_of b35) (fun hM => ?_)
        refine z_iconst X d_Mod_without_53 (v := 1) (by decide) ?_
        have e9 := Option.some.inj h
        subst e9
        exact z_zret X d_Mod_without_54 rfl ⟨rfl, rfl, hM⟩
      · skip
        have h := (if_pos h36).symm.trans h
        refine z_iconst X d_Mod_without_39 (v := 0) (by decide) ?_
        have e9 := Option.some.inj h
        subst e9
        exact z_zret X d_Mod_without_40 rfl ⟨rfl, rfl, hM⟩
theorem d_Mod_isThere_0 : decode prog_10_method_30_code 0 = .ok (.iconst 0, 1) := by decide +kernel
theorem d_Mod_isThere_1 : decode prog_10_method_30_code 1 = .ok (.istore_n 2, 1) := by decide +kernel
theorem d_Mod_isThere_2 : decode prog_10_method_30_code 2 = .ok (.iconst 0, 1) := by decide +kernel
theorem d_Mod_isThere_3 : decode prog_10_method_30_code 3 = .ok (.istore_n 3, 1) := by decide +kernel
theorem d_Mod_isThere_4 : decode prog_10_method_30_code 4 = .ok (.iload_n 3, 1) := by decide +kernel
theorem d_Mod_isThere_5 : decode prog_10_method_30_code 5 = .ok (.bipush 20, 2) := by decide +kernel
theorem d_Mod_isThere_7 : decode prog_10_method_30_code 7 = .ok (.if_icmp .ge 33, 3) := by decide +kernel
theorem d_Mod_isThere_10 : decode prog_10_method_30_code 10 = .ok (.iload_n 2, 1) := by decide +kernel
theorem d_Mod_isThere_11 : decode prog_10_method_30_code 11 = .ok (.ifCond .ne 17, 3) := by decide +kernel
theorem d_Mod_isThere_14 : decode prog_10_method_30_code 14 = .ok (.aload_n 0, 1) := by decide +kernel
theorem d_Mod_isThere_15 : decode prog_10_method_30_code 15 = .ok (.getfield 53, 3) := by decide +kernel
theorem d_Mod_isThere_18 : decode prog_10_method_30_code 18 = .ok (.bipush 10, 2) := by decide +kernel
theorem d_Mod_isThere_20 : decode prog_10_method_30_code 20 = .ok (.iload_n 3, 1) := by decide +kernel
theorem d_Mod_isThere_21 : decode prog_10_method_30_code 21 = .ok (.imul, 1) := by decide +kernel
theorem d_Mod_isThere_22 : decode prog_10_method_30_code 22 = .ok (.iload_n 1, 1) := by decide +kernel
theorem d_Mod_isThere_23 : decode prog_10_method_30_code 23 = .ok (.iadd, 1) := by decide +kernel
theorem d_Mod_isThere_24 : decode prog_10_method_30_code 24 = .ok (.baload, 1) := by decide +kernel
theorem d_Mod_isThere_25 : decode prog_10_method_30_code 25 = .ok (.ifCond .eq 7, 3) := by decide +kernel
theorem d_Mod_isThere_28 : decode prog_10_method_30_code 28 = .ok (.iconst 1, 1) := by decide +kernel
theorem d_Mod_isThere_29 : decode prog_10_method_30_code 29 = .ok (.goto 4, 3) := by decide +kernel
theorem d_Mod_isThere_32 : decode prog_10_method_30_code 32 = .ok (.iconst 0, 1) := by decide +kernel
theorem d_Mod_isThere_33 : decode prog_10_method_30_code 33 = .ok (.istore_n 2, 1) := by decide +kernel
theorem d_Mod_isThere_34 : decode prog_10_method_30_code 34 = .ok (.iinc 3 1, 3) := by decide +kernel
theorem d_Mod_isThere_37 : decode prog_10_method_30_code 37 = .ok (.goto (-33), 3) := by decide +kernel
theorem d_Mod_isThere_40 : decode prog_10_method_30_code 40 = .ok (.iload_n 2, 1) := by decide +kernel
theorem d_Mod_isThere_41 : decode prog_10_method_30_code 41 = .ok (.ireturn, 1) := by decide +kernel
def m_isThere_B : Nat → Nat → Int32 → Int32 → Int32 → MS → Option (Int32 × MS)
  | 0, _, _, _, _, _ => none
  | n + 1, _, x1, x2, x3, μ => (if 20 ≤ x3 then (if is01 x2 = true then some (x2, μ) else none) else (if x2 = 0 then (if inb ((10 * x3) + x1) 200 = true then (if ((μ.2.1 19) ((10 * x3) + x1).toNatClampNeg) = 0 then m_isThere_B n 0 x1 0 (x3 + 1) μ else m_isThere_B n 0 x1 1 (x3 + 1) μ) else none) else m_isThere_B n 0 x1 1 (x3 + 1) μ))
def m_isThere (x1 : Int32) (μ : MS) : Option (Int32 × MS) := m_isThere_B 4096 0 x1 0 0 μ
set_option maxHeartbeats 4000000 in
set_option maxRecDepth 100000 in
theorem c_Mod_isThere {A : Nat → Nat} {f0 : Nat → va_E} {μ : MS} {x1 : Int32} {res : (Int32 × MS)} (hM : zMf ck b0 N A f0 f μ) (h : m_isThere x1 μ = some res) : zK l D ck ad b0 y_Mod_isThere prog_10_method_30_code 4 ((some FieldType.boolean)) 0 0 0 [.ref (A 38), .int x1] N f (fun r N' f' => r = some (.int res.1) ∧ N = N' ∧ zMf ck b0 N A f0 f' res.2) := by
  refine zM.of zG_w (by decide) (Nat.le_of_ble_eq_true rfl) ?_
  intro zp ze zst zm zar zbe zme zc X hnm hb0
  have L : ∀ n : Nat, (∀ (x1 : Int32) (x2 : Int32) (x3 : Int32) (f1 : Nat → va_E) (μ : MS), zMf ck b0 N A f0 f1 μ → m_isThere_B n 0 x1 x2 x3 μ = some res → zW zp l ze (zR 0 0 0) zst zm zar zbe zme zc D zcl b0 4 0 0 (MQ zbe (zQ D zcl b0 (fun r N' f' => r = some (.int res.1) ∧ N = N' ∧ zMf ck b0 N A f0 f' res.2)) zar zst 0 0 (zA b0)) N f1 4 [(0, .ref (A 38)), (1, .int x1), (2, .int x2), (3, .int x3)] []) := by
    intro n
    induction n with
    | zero =>
      exact fun _ _ _ _ _ _ h => (by rw [m_isThere_B] at h; cases h)
    | succ n ih =>
      · intro x1 x2 x3 f1 μ hM h
        rw [m_isThere_B] at h
        refine z_iload_n X d_Mod_isThere_4 rfl ?_
        refine z_bipush X d_Mod_isThere_5 (v := 20) (by decide) ?_
        refine z_icmp_ge X 40 d_Mod_isThere_7 (by decide) (fun h7 => ?_) (fun h7 => ?_)
        · skip
          have h := (if_pos h7).symm.trans h
          refine z_iload_n X d_Mod_isThere_40 rfl ?_
          obtain ⟨z41, h⟩ := gd h
          have e9 := Option.some.inj h
          subst e9
          exact z_zret X d_Mod_isThere_41 (n01 z41) ⟨rfl, rfl, hM⟩
        · skip
          have h := (if_neg h7).symm.trans h
          refine z_iload_n X d_Mod_isThere_10 rfl ?_
          refine z_if_ne X 28 d_Mod_isThere_11 (by decide) (fun h11 => ?_) (fun h11 => ?_)
          · skip
            have h := (if_neg h11).symm.trans h
            refine z_iconst X d_Mod_isThere_28 (v := 1) (by decide) ?_
            refine z_goto X 33 d_Mod_isThere_29 (by decide) ?_
            refine z_istore_n X d_Mod_isThere_33 (by decide) rfl ?_
            refine z_iinc X d_Mod_isThere_34 rfl (iic 1 1 (by decide) _) (by decide) rfl ?_
            refine z_goto X 4 d_Mod_isThere_37 (by decide) ?_
            refine zW.pick [0, 1, 2, 3] (lv' := [(0, .ref (A 38)), (1, .int x1), (2, .int 1), (3, .int (x3 + 1))]) rfl ?_
            exact (ih) x1 1 (x3 + 1) _ _ hM h
          · skip
            have h := (if_pos h11).symm.trans h
            refine z_aload_n X d_Mod_isThere_14 rfl ?_
            refine z_get X (v := .ref (A 19)) d_Mod_isThere_15 (hM.lo 38 (by decide)) hM.ob cl_Mod in_Mod 19 (by decide) fl_Mod_53 rfl rfl ?_
            refine z_bipush X d_Mod_isThere_18 (v := 10) (by decide) ?_
            refine z_iload_n X d_Mod_isThere_20 rfl ?_
            refine z_imul X d_Mod_isThere_21 ?_
            refine z_iload_n X d_Mod_isThere_22 rfl ?_
            refine z_iadd X d_Mod_isThere_23 ?_
            obtain ⟨b24, h⟩ := gd h
            refine z_zald X (g := (μ.2.1 19)) d_Mod_isThere_24 (hM.lo 19 (by decide)) (hM.zA 19 200 rfl) (t0 := 1) rfl (vp_of b24) ?_
            refine z_if_eq X 32 d_Mod_isThere_25 (by decide) (fun h25 => ?_) (fun h25 => ?_)
            · skip
              have h := (if_pos h25).symm.trans h
              refine z_iconst X d_Mod_isThere_32 (v := 0) (by decide) ?_
              refine z_istore_n X d_Mod_isThere_33 (by decide) rfl ?_
              refine z_iinc X d_Mod_isThere_34 rfl (iic 1 1 (by decide) _) (by decide) rfl ?_
              refine z_goto X 4 d_Mod_isThere_37 (by decide) ?_
              refine zW.pick [0, 1, 2, 3] (lv' := [(0, .ref (A 38)), (1, .int x1), (2, .int 0), (3, .int (x3 + 1))]) rfl ?_
              exact (ih) x1 0 (x3 + 1) _ _ hM h
            · skip
              have h := (if_neg h25).symm.trans h
              refine z_iconst X d_Mod_isThere_28 (v := 1) (by decide) ?_
              refine z_goto X 33 d_Mod_isThere_29 (by decide) ?_
              refine z_istore_n X d_Mod_isThere_33 (by decide) rfl ?_
              refine z_iinc X d_Mod_isThere_34 rfl (iic 1 1 (by decide) _) (by decide) rfl ?_
              refine z_goto X 4 d_Mod_isThere_37 (by decide) ?_
              refine zW.pick [0, 1, 2, 3] (lv' := [(0, .ref (A 38)), (1, .int x1), (2, .int 1), (3, .int (x3 + 1))]) rfl ?_
              exact (ih) x1 1 (x3 + 1) _ _ hM h
  rw [m_isThere] at h
  refine z_iconst X d_Mod_isThere_0 (v := 0) (by decide) ?_
  refine z_istore_n X d_Mod_isThere_1 (by decide) rfl ?_
  refine z_iconst X d_Mod_isThere_2 (v := 0) (by decide) ?_
  refine z_istore_n X d_Mod_isThere_3 (by decide) rfl ?_
  refine zW.pick [0, 1, 2, 3] (lv' := [(0, .ref (A 38)), (1, .int x1), (2, .int 0), (3, .int 0)]) rfl ?_
  exact (L 4096) x1 0 0 _ _ hM h
theorem d_Mod_workTerm_0 : decode prog_10_method_31_code 0 = .ok (.bipush 10, 2) := by decide +kernel
theorem d_Mod_workTerm_2 : decode prog_10_method_31_code 2 = .ok (.iload_n 2, 1) := by decide +kernel
theorem d_Mod_workTerm_3 : decode prog_10_method_31_code 3 = .ok (.imul, 1) := by decide +kernel
theorem d_Mod_workTerm_4 : decode prog_10_method_31_code 4 = .ok (.iload_n 3, 1) := by decide +kernel
theorem d_Mod_workTerm_5 : decode prog_10_method_31_code 5 = .ok (.iadd, 1) := by decide +kernel
theorem d_Mod_workTerm_6 : decode prog_10_method_31_code 6 = .ok (.istore 4, 2) := by decide +kernel
theorem d_Mod_workTerm_8 : decode prog_10_method_31_code 8 = .ok (.aload_n 0, 1) := by decide +kernel
theorem d_Mod_workTerm_9 : decode prog_10_method_31_code 9 = .ok (.getfield 78, 3) := by decide +kernel
theorem d_Mod_workTerm_12 : decode prog_10_method_31_code 12 = .ok (.iload 4, 2) := by decide +kernel
theorem d_Mod_workTerm_14 : decode prog_10_method_31_code 14 = .ok (.iconst 1, 1) := by decide +kernel
theorem d_Mod_workTerm_15 : decode prog_10_method_31_code 15 = .ok (.bastore, 1) := by decide +kernel
theorem d_Mod_workTerm_16 : decode prog_10_method_31_code 16 = .ok (.aload_n 0, 1) := by decide +kernel
theorem d_Mod_workTerm_17 : decode prog_10_method_31_code 17 = .ok (.getfield 74, 3) := by decide +kernel
theorem d_Mod_workTerm_20 : decode prog_10_method_31_code 20 = .ok (.iload 4, 2) := by decide +kernel
theorem d_Mod_workTerm_22 : decode prog_10_method_31_code 22 = .ok (.lconst 0, 1) := by decide +kernel
theorem d_Mod_workTerm_23 : decode prog_10_method_31_code 23 = .ok (.lastore, 1) := by decide +kernel
theorem d_Mod_workTerm_24 : decode prog_10_method_31_code 24 = .ok (.aload_n 0, 1) := by decide +kernel
theorem d_Mod_workTerm_25 : decode prog_10_method_31_code 25 = .ok (.getfield 13, 3) := by decide +kernel
theorem d_Mod_workTerm_28 : decode prog_10_method_31_code 28 = .ok (.iload_n 1, 1) := by decide +kernel
theorem d_Mod_workTerm_29 : decode prog_10_method_31_code 29 = .ok (.iaload, 1) := by decide +kernel
theorem d_Mod_workTerm_30 : decode prog_10_method_31_code 30 = .ok (.bipush 11, 2) := by decide +kernel
theorem d_Mod_workTerm_32 : decode prog_10_method_31_code 32 = .ok (.if_icmp .ne 17, 3) := by decide +kernel
theorem d_Mod_workTerm_35 : decode prog_10_method_31_code 35 = .ok (.aload_n 0, 1) := by decide +kernel
theorem d_Mod_workTerm_36 : decode prog_10_method_31_code 36 = .ok (.getfield 74, 3) := by decide +kernel
theorem d_Mod_workTerm_39 : decode prog_10_method_31_code 39 = .ok (.iload 4, 2) := by decide +kernel
theorem d_Mod_workTerm_41 : decode prog_10_method_31_code 41 = .ok (.aload_n 0, 1) := by decide +kernel
theorem d_Mod_workTerm_42 : decode prog_10_method_31_code 42 = .ok (.getfield 16, 3) := by decide +kernel
theorem d_Mod_workTerm_45 : decode prog_10_method_31_code 45 = .ok (.iload_n 1, 1) := by decide +kernel
theorem d_Mod_workTerm_46 : decode prog_10_method_31_code 46 = .ok (.iaload, 1) := by decide +kernel
theorem d_Mod_workTerm_47 : decode prog_10_method_31_code 47 = .ok (.i2l, 1) := by decide +kernel
theorem d_Mod_workTerm_48 : decode prog_10_method_31_code 48 = .ok (.lastore, 1) := by decide +kernel
theorem d_Mod_workTerm_49 : decode prog_10_method_31_code 49 = .ok (.aload_n 0, 1) := by decide +kernel
theorem d_Mod_workTerm_50 : decode prog_10_method_31_code 50 = .ok (.getfield 13, 3) := by decide +kernel
theorem d_Mod_workTerm_53 : decode prog_10_method_31_code 53 = .ok (.iload_n 1, 1) := by decide +kernel
theorem d_Mod_workTerm_54 : decode prog_10_method_31_code 54 = .ok (.iaload, 1) := by decide +kernel
theorem d_Mod_workTerm_55 : decode prog_10_method_31_code 55 = .ok (.bipush 12, 2) := by decide +kernel
theorem d_Mod_workTerm_57 : decode prog_10_method_31_code 57 = .ok (.if_icmp .ne 50, 3) := by decide +kernel
theorem d_Mod_workTerm_60 : decode prog_10_method_31_code 60 = .ok (.aload_n 0, 1) := by decide +kernel
theorem d_Mod_workTerm_61 : decode prog_10_method_31_code 61 = .ok (.getfield 74, 3) := by decide +kernel
theorem d_Mod_workTerm_64 : decode prog_10_method_31_code 64 = .ok (.iload 4, 2) := by decide +kernel
theorem d_Mod_workTerm_66 : decode prog_10_method_31_code 66 = .ok (.aload_n 0, 1) := by decide +kernel
theorem d_Mod_workTerm_67 : decode prog_10_method_31_code 67 = .ok (.getfield 50, 3) := by decide +kernel
theorem d_Mod_workTerm_70 : decode prog_10_method_31_code 70 = .ok (.bipush 10, 2) := by decide +kernel
theorem d_Mod_workTerm_72 : decode prog_10_method_31_code 72 = .ok (.aload_n 0, 1) := by decide +kernel
theorem d_Mod_workTerm_73 : decode prog_10_method_31_code 73 = .ok (.getfield 16, 3) := by decide +kernel
theorem d_Mod_workTerm_76 : decode prog_10_method_31_code 76 = .ok (.iload_n 1, 1) := by decide +kernel
theorem d_Mod_workTerm_77 : decode prog_10_method_31_code 77 = .ok (.iaload, 1) := by decide +kernel
theorem d_Mod_workTerm_78 : decode prog_10_method_31_code 78 = .ok (.imul, 1) := by decide +kernel
theorem d_Mod_workTerm_79 : decode prog_10_method_31_code 79 = .ok (.iload_n 3, 1) := by decide +kernel
theorem d_Mod_workTerm_80 : decode prog_10_method_31_code 80 = .ok (.iadd, 1) := by decide +kernel
theorem d_Mod_workTerm_81 : decode prog_10_method_31_code 81 = .ok (.iaload, 1) := by decide +kernel
theorem d_Mod_workTerm_82 : decode prog_10_method_31_code 82 = .ok (.i2l, 1) := by decide +kernel
theorem d_Mod_workTerm_83 : decode prog_10_method_31_code 83 = .ok (.lastore, 1) := by decide +kernel
theorem d_Mod_workTerm_84 : decode prog_10_method_31_code 84 = .ok (.aload_n 0, 1) := by decide +kernel
theorem d_Mod_workTerm_85 : decode prog_10_method_31_code 85 = .ok (.getfield 78, 3) := by decide +kernel
theorem d_Mod_workTerm_88 : decode prog_10_method_31_code 88 = .ok (.iload 4, 2) := by decide +kernel
theorem d_Mod_workTerm_90 : decode prog_10_method_31_code 90 = .ok (.aload_n 0, 1) := by decide +kernel
theorem d_Mod_workTerm_91 : decode prog_10_method_31_code 91 = .ok (.getfield 53, 3) := by decide +kernel
theorem d_Mod_workTerm_94 : decode prog_10_method_31_code 94 = .ok (.bipush 10, 2) := by decide +kernel
theorem d_Mod_workTerm_96 : decode prog_10_method_31_code 96 = .ok (.aload_n 0, 1) := by decide +kernel
theorem d_Mod_workTerm_97 : decode prog_10_method_31_code 97 = .ok (.getfield 16, 3) := by decide +kernel
theorem d_Mod_workTerm_100 : decode prog_10_method_31_code 100 = .ok (.iload_n 1, 1) := by decide +kernel
theorem d_Mod_workTerm_101 : decode prog_10_method_31_code 101 = .ok (.iaload, 1) := by decide +kernel
theorem d_Mod_workTerm_102 : decode prog_10_method_31_code 102 = .ok (.imul, 1) := by decide +kernel
theorem d_Mod_workTerm_103 : decode prog_10_method_31_code 103 = .ok (.iload_n 3, 1) := by decide +kernel
theorem d_Mod_workTerm_104 : decode prog_10_method_31_code 104 = .ok (.iadd, 1) := by decide +kernel
theorem d_Mod_workTerm_105 : decode prog_10_method_31_code 105 = .ok (.baload, 1) := by decide +kernel
theorem d_Mod_workTerm_106 : decode prog_10_method_31_code 106 = .ok (.bastore, 1) := by decide +kernel
theorem d_Mod_workTerm_107 : decode prog_10_method_31_code 107 = .ok (.iconst 1, 1) := by decide +kernel
theorem d_Mod_workTerm_108 : decode prog_10_method_31_code 108 = .ok (.istore 5, 2) := by decide +kernel
theorem d_Mod_workTerm_110 : decode prog_10_method_31_code 110 = .ok (.iload 5, 2) := by decide +kernel
theorem d_Mod_workTerm_112 : decode prog_10_method_31_code 112 = .ok (.bipush 10, 2) := by decide +kernel
theorem d_Mod_workTerm_114 : decode prog_10_method_31_code 114 = .ok (.if_icmp .ge 83, 3) := by decide +kernel
theorem d_Mod_workTerm_117 : decode prog_10_method_31_code 117 = .ok (.aload_n 0, 1) := by decide +kernel
theorem d_Mod_workTerm_118 : decode prog_10_method_31_code 118 = .ok (.getfield 13, 3) := by decide +kernel
theorem d_Mod_workTerm_121 : decode prog_10_method_31_code 121 = .ok (.iload_n 1, 1) := by decide +kernel
theorem d_Mod_workTerm_122 : decode prog_10_method_31_code 122 = .ok (.iaload, 1) := by decide +kernel
theorem d_Mod_workTerm_123 : decode prog_10_method_31_code 123 = .ok (.bipush 12, 2) := by decide +kernel
theorem d_Mod_workTerm_125 : decode prog_10_method_31_code 125 = .ok (.if_icmp .le 72, 3) := by decide +kernel
theorem d_Mod_workTerm_128 : decode prog_10_method_31_code 128 = .ok (.aload_n 0, 1) := by decide +kernel
theorem d_Mod_workTerm_129 : decode prog_10_method_31_code 129 = .ok (.getfield 53, 3) := by decide +kernel
theorem d_Mod_workTerm_132 : decode prog_10_method_31_code 132 = .ok (.bipush 10, 2) := by decide +kernel
theorem d_Mod_workTerm_134 : decode prog_10_method_31_code 134 = .ok (.aload_n 0, 1) := by decide +kernel
theorem d_Mod_workTerm_135 : decode prog_10_method_31_code 135 = .ok (.getfield 16, 3) := by decide +kernel
theorem d_Mod_workTerm_138 : decode prog_10_method_31_code 138 = .ok (.iload_n 1, 1) := by decide +kernel
theorem d_Mod_workTerm_139 : decode prog_10_method_31_code 139 = .ok (.iaload, 1) := by decide +kernel
theorem d_Mod_workTerm_140 : decode prog_10_method_31_code 140 = .ok (.imul, 1) := by decide +kernel
theorem d_Mod_workTerm_141 : decode prog_10_method_31_code 141 = .ok (.iload 5, 2) := by decide +kernel
theorem d_Mod_workTerm_143 : decode prog_10_method_31_code 143 = .ok (.iadd, 1) := by decide +kernel
theorem d_Mod_workTerm_144 : decode prog_10_method_31_code 144 = .ok (.baload, 1) := by decide +kernel
theorem d_Mod_workTerm_145 : decode prog_10_method_31_code 145 = .ok (.ifCond .eq 46, 3) := by decide +kernel
theorem d_Mod_workTerm_148 : decode prog_10_method_31_code 148 = .ok (.aload_n 0, 1) := by decide +kernel
theorem d_Mod_workTerm_149 : decode prog_10_method_31_code 149 = .ok (.getfield 74, 3) := by decide +kernel
theorem d_Mod_workTerm_152 : decode prog_10_method_31_code 152 = .ok (.iload 4, 2) := by decide +kernel
theorem d_Mod_workTerm_154 : decode prog_10_method_31_code 154 = .ok (.dup2, 1) := by decide +kernel
theorem d_Mod_workTerm_155 : decode prog_10_method_31_code 155 = .ok (.laload, 1) := by decide +kernel
theorem d_Mod_workTerm_156 : decode prog_10_method_31_code 156 = .ok (.aload_n 0, 1) := by decide +kernel
theorem d_Mod_workTerm_157 : decode prog_10_method_31_code 157 = .ok (.getfield 13, 3) := by decide +kernel
theorem d_Mod_workTerm_160 : decode prog_10_method_31_code 160 = .ok (.iload_n 1, 1) := by decide +kernel
theorem d_Mod_workTerm_161 : decode prog_10_method_31_code 161 = .ok (.iaload, 1) := by decide +kernel
theorem d_Mod_workTerm_162 : decode prog_10_method_31_code 162 = .ok (.bipush 13, 2) := by decide +kernel
theorem d_Mod_workTerm_164 : decode prog_10_method_31_code 164 = .ok (.if_icmp .ne 24, 3) := by decide +kernel
theorem d_Mod_workTerm_167 : decode prog_10_method_31_code 167 = .ok (.aload_n 0, 1) := by decide +kernel
theorem d_Mod_workTerm_168 : decode prog_10_method_31_code 168 = .ok (.getfield 50, 3) := by decide +kernel
theorem d_Mod_workTerm_171 : decode prog_10_method_31_code 171 = .ok (.bipush 10, 2) := by decide +kernel
theorem d_Mod_workTerm_173 : decode prog_10_method_31_code 173 = .ok (.aload_n 0, 1) := by decide +kernel
theorem d_Mod_workTerm_174 : decode prog_10_method_31_code 174 = .ok (.getfield 16, 3) := by decide +kernel
theorem d_Mod_workTerm_177 : decode prog_10_method_31_code 177 = .ok (.iload_n 1, 1) := by decide +kernel
theorem d_Mod_workTerm_178 : decode prog_10_method_31_code 178 = .ok (.iaload, 1) := by decide +kernel
theorem d_Mod_workTerm_179 : decode prog_10_method_31_code 179 = .ok (.imul, 1) := by decide +kernel
theorem d_Mod_workTerm_180 : decode prog_10_method_31_code 180 = .ok (.iload 5, 2) := by decide +kernel
theorem d_Mod_workTerm_182 : decode prog_10_method_31_code 182 = .ok (.iadd, 1) := by decide +kernel
theorem d_Mod_workTerm_183 : decode prog_10_method_31_code 183 = .ok (.iaload, 1) := by decide +kernel
theorem d_Mod_workTerm_184 : decode prog_10_method_31_code 184 = .ok (.i2l, 1) := by decide +kernel
theorem d_Mod_workTerm_185 : decode prog_10_method_31_code 185 = .ok (.goto 4, 3) := by decide +kernel
theorem d_Mod_workTerm_188 : decode prog_10_method_31_code 188 = .ok (.lconst 1, 1) := by decide +kernel
theorem d_Mod_workTerm_189 : decode prog_10_method_31_code 189 = .ok (.ladd, 1) := by decide +kernel
theorem d_Mod_workTerm_190 : decode prog_10_method_31_code 190 = .ok (.lastore, 1) := by decide +kernel
theorem d_Mod_workTerm_191 : decode prog_10_method_31_code 191 = .ok (.iinc 5 1, 3) := by decide +kernel
theorem d_Mod_workTerm_194 : decode prog_10_method_31_code 194 = .ok (.goto (-84), 3) := by decide +kernel
theorem d_Mod_workTerm_197 : decode prog_10_method_31_code 197 = .ok (.return_, 1) := by decide +kernel
def m_workTerm_B : Nat → Nat → Int32 → Int32 → Int32 → Int32 → MS → Option MS
  | 0, _, _, _, _, _, _ => none
  | n + 1, b, x1, x3, x4, x5, μ => if b = 0 then (if inb x1 800 = true then (if ((μ.2.1 6) x1.toNatClampNeg) = 12 then (if inb ((10 * ((μ.2.1 7) x1.toNatClampNeg)) + x3) 200 = true then (if inb x4 400 = true then m_workTerm_B n 1 x1 0 x4 0 (sA 32 (x4.toNatClampNeg) (vp_nar .boolean ((μ.2.1 19) ((10 * ((μ.2.1 7) x1.toNatClampNeg)) + x3).toNatClampNeg)) (sJ (x4.toNatClampNeg) ((μ.2.1 18) ((10 * ((μ.2.1 7) x1.toNatClampNeg)) + x3).toNatClampNeg).toInt64 μ)) else none) else none) else m_workTerm_B n 1 x1 0 x4 0 μ) else none)
    else if b = 1 then m_workTerm_B n 2 x1 0 x4 1 μ
    else if b = 2 then (if 10 ≤ x5 then m_workTerm_B n 4 0 0 0 0 μ else (if inb x1 800 = true then (if ((μ.2.1 6) x1.toNatClampNeg) ≤ 12 then m_workTerm_B n 4 0 0 0 0 μ else (if inb ((10 * ((μ.2.1 7) x1.toNatClampNeg)) + x5) 200 = true then (if ((μ.2.1 19) ((10 * ((μ.2.1 7) x1.toNatClampNeg)) + x5).toNatClampNeg) = 0 then m_workTerm_B n 3 x1 0 x4 x5 μ else (if inb x4 400 = true then (if ((μ.2.1 6) x1.toNatClampNeg) = 13 then m_workTerm_B n 3 x1 0 x4 x5 (sJ (x4.toNatClampNeg) ((μ.2.2 x4.toNatClampNeg) + ((μ.2.1 18) ((10 * ((μ.2.1 7) x1.toNatClampNeg)) + x5).toNatClampNeg).toInt64) μ) else m_workTerm_B n 3 x1 0 x4 x5 (sJ (x4.toNatClampNeg) ((μ.2.2 x4.toNatClampNeg) + 1) μ)) else none)) else none)) else none))
    else if b = 3 then m_workTerm_B n 2 x1 0 x4 (x5 + 1) μ
    else some μ
theorem m_workTerm_b0 (n : Nat) (x1 : Int32) (x3 : Int32) (x4 : Int32) (x5 : Int32) (μ : MS) : m_workTerm_B (n + 1) 0 x1 x3 x4 x5 μ = (if inb x1 800 = true then (if ((μ.2.1 6) x1.toNatClampNeg) = 12 then (if inb ((10 * ((μ.2.1 7) x1.toNatClampNeg)) + x3) 200 = true then (if inb x4 400 = true then m_workTerm_B n 1 x1 0 x4 0 (sA 32 (x4.toNatClampNeg) (vp_nar .boolean ((μ.2.1 19) ((10 * ((μ.2.1 7) x1.toNatClampNeg)) + x3).toNatClampNeg)) (sJ (x4.toNatClampNeg) ((μ.2.1 18) ((10 * ((μ.2.1 7) x1.toNatClampNeg)) + x3).toNatClampNeg).toInt64 μ)) else none) else none) else m_workTerm_B n 1 x1 0 x4 0 μ) else none) := by
  rw [m_workTerm_B, if_pos rfl]
theorem m_workTerm_b1 (n : Nat) (x1 : Int32) (x3 : Int32) (x4 : Int32) (x5 : Int32) (μ : MS) : m_workTerm_B (n + 1) 1 x1 x3 x4 x5 μ = m_workTerm_B n 2 x1 0 x4 1 μ := by
  rw [m_workTerm_B, if_neg (by decide), if_pos rfl]
theorem m_workTerm_b2 (n : Nat) (x1 : Int32) (x3 : Int32) (x4 : Int32) (x5 : Int32) (μ : MS) : m_workTerm_B (n + 1) 2 x1 x3 x4 x5 μ = (if 10 ≤ x5 then m_workTerm_B n 4 0 0 0 0 μ else (if inb x1 800 = true then (if ((μ.2.1 6) x1.toNatClampNeg) ≤ 12 then m_workTerm_B n 4 0 0 0 0 μ else (if inb ((10 * ((μ.2.1 7) x1.toNatClampNeg)) + x5) 200 = true then (if ((μ.2.1 19) ((10 * ((μ.2.1 7) x1.toNatClampNeg)) + x5).toNatClampNeg) = 0 then m_workTerm_B n 3 x1 0 x4 x5 μ else (if inb x4 400 = true then (if ((μ.2.1 6) x1.toNatClampNeg) = 13 then m_workTerm_B n 3 x1 0 x4 x5 (sJ (x4.toNatClampNeg) ((μ.2.2 x4.toNatClampNeg) + ((μ.2.1 18) ((10 * ((μ.2.1 7) x1.toNatClampNeg)) + x5).toNatClampNeg).toInt64) μ) else m_workTerm_B n 3 x1 0 x4 x5 (sJ (x4.toNatClampNeg) ((μ.2.2 x4.toNatClampNeg) + 1) μ)) else none)) else none)) else none)) := by
  rw [m_workTerm_B, if_neg (by decide), if_neg (by decide), if_pos rfl]
theorem m_workTerm_b3 (n : Nat) (x1 : Int32) (x3 : Int32) (x4 : Int32) (x5 : Int32) (μ : MS) : m_workTerm_B (n + 1) 3 x1 x3 x4 x5 μ = m_workTerm_B n 2 x1 0 x4 (x5 + 1) μ := by
  rw [m_workTerm_B, if_neg (by decide), if_neg (by decide), if_neg (by decide), if_pos rfl]
theorem m_workTerm_b4 (n : Nat) (x1 : Int32) (x3 : Int32) (x4 : Int32) (x5 : Int32) (μ : MS) : m_workTerm_B (n + 1) 4 x1 x3 x4 x5 μ = some μ := by
  rw [m_workTerm_B, if_neg (by decide), if_neg (by decide), if_neg (by decide), if_neg (by decide)]
def m_workTerm (x1 x2 x3 : Int32) (μ : MS) : Option MS := (if inb ((10 * x2) + x3) 400 = true then (if inb x1 800 = true then (if ((μ.2.1 6) x1.toNatClampNeg) = 11 then m_workTerm_B 4096 0 x1 x3 ((10 * x2) + x3) 0 (sJ (((10 * x2) + x3).toNatClampNeg) ((μ.2.1 7) x1.toNatClampNeg).toInt64 (sJ (((10 * x2) + x3).toNatClampNeg) 0 (sA 32 (((10 * x2) + x3).toNatClampNeg) (vp_nar .boolean 1) μ))) else m_workTerm_B 4096 0 x1 x3 ((10 * x2) + x3) 0 (sJ (((10 * x2) + x3).toNatClampNeg) 0 (sA 32 (((10 * x2) + x3).toNatClampNeg) (vp_nar .boolean 1) μ))) else none) else none)
set_option maxHeartbeats 4000000 in
set_option maxRecDepth 100000 in
theorem c_Mod_workTerm {A : Nat → Nat} {f0 : Nat → va_E} {μ : MS} {x1 x2 x3 : Int32} {res : MS} (hM : zMf ck b0 N A f0 f μ) (h : m_workTerm x1 x2 x3 μ = some res) : zK l D ck ad b0 y_Mod_workTerm prog_10_method_31_code 6 (none) 0 0 0 [.ref (A 38), .int x1, .int x2, .int x3] N f (fun r N' f' => r = none ∧ N = N' ∧ zMf ck b0 N A f0 f' res) := by
  refine zM.of zG_w (by decide) (Nat.le_of_ble_eq_true rfl) ?_
  intro zp ze zst zm zar zbe zme zc X hnm hb0
  have L : ∀ n : Nat, (∀ (x1 : Int32) (x3 : Int32) (x4 : Int32) (x5 : Int32) (f1 : Nat → va_E) (μ : MS), zMf ck b0 N A f0 f1 μ → m_workTerm_B n 0 x1 x3 x4 x5 μ = some res → zW zp l ze (zR 0 0 0) zst zm zar zbe zme zc D zcl b0 6 0 0 (MQ zbe (zQ D zcl b0 (fun r N' f' => r = none ∧ N = N' ∧ zMf ck b0 N A f0 f' res)) zar zst 0 0 (zA b0)) N f1 49 [(0, .ref (A 38)), (1, .int x1), (3, .int x3), (4, .int x4)] []) ∧ (∀ (x1 : Int32) (x3 : Int32) (x4 : Int32) (x5 : Int32) (f1 : Nat → va_E) (μ : MS), zMf ck b0 N A f0 f1 μ → m_workTerm_B n 1 x1 x3 x4 x5 μ = some res → zW zp l ze (zR 0 0 0) zst zm zar zbe zme zc D zcl b0 6 0 0 (MQ zbe (zQ D zcl b0 (fun r N' f' => r = none ∧ N = N' ∧ zMf ck b0 N A f0 f' res)) zar zst 0 0 (zA b0)) N f1 107 [(0, .ref (A 38)), (1, .int x1), (4, .int x4)] []) ∧ (∀ (x1 : Int32) (x3 : Int32) (x4 : Int32) (x5 : Int32) (f1 : Nat → va_E) (μ : MS), zMf ck b0 N A f0 f1 μ → m_workTerm_B n 2 x1 x3 x4 x5 μ = some res → zW zp l ze (zR 0 0 0) zst zm zar zbe zme zc D zcl b0 6 0 0 (MQ zbe (zQ D zcl b0 (fun r N' f' => r = none ∧ N = N' ∧ zMf ck b0 N A f0 f' res)) zar zst 0 0 (zA b0)) N f1 110 [(0, .ref (A 38)), (1, .int x1), (4, .int x4), (5, .int x5)] []) ∧ (∀ (x1 : Int32) (x3 : Int32) (x4 : Int32) (x5 : Int32) (f1 : Nat → va_E) (μ : MS), zMf ck b0 N A f0 f1 μ → m_workTerm_B n 3 x1 x3 x4 x5 μ = some res → zW zp l ze (zR 0 0 0) zst zm zar zbe zme zc D zcl b0 6 0 0 (MQ zbe (zQ D zcl b0 (fun r N' f' => r = none ∧ N = N' ∧ zMf ck b0 N A f0 f' res)) zar zst 0 0 (zA b0)) N f1 191 [(0, .ref (A 38)), (1, .int x1), (4, .int x4), (5, .int x5)] []) ∧ (∀ (x1 : Int32) (x3 : Int32) (x4 : Int32) (x5 : Int32) (f1 : Nat → va_E) (μ : MS), zMf ck b0 N A f0 f1 μ → m_workTerm_B n 4 x1 x3 x4 x5 μ = some res → zW zp l ze (zR 0 0 0) zst zm zar zbe zme zc D zcl b0 6 0 0 (MQ zbe (zQ D zcl b0 (fun r N' f' => r = none ∧ N = N' ∧ zMf ck b0 N A f0 f' res)) zar zst 0 0 (zA b0)) N f1 197 [(0, .ref (A 38))] []) := by
    intro n
    induction n with
    | zero =>
      exact ⟨fun _ _ _ _ _ _ _ h => (by rw [m_workTerm_B] at h; cases h), fun _ _ _ _ _ _ _ h => (by rw [m_workTerm_B] at h; cases h), fun _ _ _ _ _ _ _ h => (by rw [m_workTerm_B] at h; cases h), fun _ _ _ _ _ _ _ h => (by rw [m_workTerm_B] at h; cases h), fun _ _ _ _ _ _ _ h => (by rw [m_workTerm_B] at h; cases h)⟩
    | succ n ih =>
      refine ⟨?_, ?_, ?_, ?_, ?_⟩
      · intro x1 x3 x4 x5 f1 μ hM h
        rw [m_workTerm_b0] at h
        refine z_aload_n X d_Mod_workTerm_49 rfl ?_
        refine z_get X (v := .ref (A 6)) d_Mod_workTerm_50 (hM.lo 38 (by decide)) hM.ob cl_Mod in_Mod 6 (by decide) fl_Mod_13 rfl rfl ?_
        refine z_iload_n X d_Mod_workTerm_53 rfl ?_
        obtain ⟨b54, h⟩ := gd h
        refine z_iald X (g := (μ.2.1 6)) d_Mod_workTerm_54 (hM.lo 6 (by decide)) (hM.iA 6 800 rfl) (t0 := 0) rfl (vp_of b54) ?_
        refine z_bipush X d_Mod_workTerm_55 (v := 12) (by decide) ?_
        refine z_icmp_ne X 107 d_Mod_workTerm_57 (by decide) (fun h57 => ?_) (fun h57 => ?_)
        · skip
          have h := (if_neg h57).symm.trans h
          refine zW.pick [0, 1, 3] (lv' := [(0, .ref (A 38)), (1, .int x1), (4, .int x4)]) rfl ?_
          exact (ih).2.1 x1 0 x4 0 _ _ hM h
        · skip
          have h := (if_pos h57).symm.trans h
          refine z_aload_n X d_Mod_workTerm_60 rfl ?_
          refine z_get X (v := .ref (A 31)) d_Mod_workTerm_61 (hM.lo 38 (by decide)) hM.ob cl_Mod in_Mod 31 (by decide) fl_Mod_74 rfl rfl ?_
          refine z_iload X d_Mod_workTerm_64 rfl ?_
          refine z_aload_n X d_Mod_workTerm_66 rfl ?_
          refine z_get X (v := .ref (A 18)) d_Mod_workTerm_67 (hM.lo 38 (by decide)) hM.ob cl_Mod in_Mod 18 (by decide) fl_Mod_50 rfl rfl ?_
          refine z_bipush X d_Mod_workTerm_70 (v := 10) (by decide) ?_
          refine z_aload_n X d_Mod_workTerm_72 rfl ?_
          refine z_get X (v := .ref (A 7)) d_Mod_workTerm_73 (hM.lo 38 (by decide)) hM.ob cl_Mod in_Mod 7 (by decide) fl_Mod_16 rfl rfl ?_
          refine z_iload_n X d_Mod_workTerm_76 rfl ?_
          refine z_iald X (g := (μ.2.1 7)) d_Mod_workTerm_77 (hM.lo 7 (by decide)) (hM.iA 7 800 rfl) (t0 := 0) rfl (vp_of b54) ?_
          refine z_imul X d_Mod_workTerm_78 ?_
          refine z_iload_n X d_Mod_workTerm_79 rfl ?_
          refine z_iadd X d_Mod_workTerm_80 ?_
          obtain ⟨b81, h⟩ := gd h
          refine z_iald X (g := (μ.2.1 18)) d_Mod_workTerm_81 (hM.lo 18 (by decide)) (hM.iA 18 200 rfl) (t0 := 0) rfl (vp_of b81) ?_
          refine z_i2l X d_Mod_workTerm_82 rfl ?_
          obtain ⟨b83, h⟩ := gd h
          refine z_lastM X d_Mod_workTerm_83 hM rfl (vp_of b83) (fun hM => ?_)
          refine z_aload_n X d_Mod_workTerm_84 rfl ?_
          refine z_get X (v := .ref (A 32)) d_Mod_workTerm_85 (hM.lo 38 (by decide)) hM.ob cl_Mod in_Mod 32 (by decide) fl_Mod_78 rfl rfl ?_
          refine z_iload X d_Mod_workTerm_88 rfl ?_
          refine z_aload_n X d_Mod_workTerm_90 rfl ?_
          refine z_get X (v := .ref (A 19)) d_Mod_workTerm_91 (hM.lo 38 (by decide)) hM.ob cl_Mod in_Mod 19 (by decide) fl_Mod_53 rfl rfl ?_
          refine z_bipush X d_Mod_workTerm_94 (v := 10) (by decide) ?_
          refine z_aload_n X d_Mod_workTerm_96 rfl ?_
          refine z_get X (v := .ref (A 7)) d_Mod_workTerm_97 (hM.lo 38 (by decide)) hM.ob cl_Mod in_Mod 7 (by decide) fl_Mod_16 rfl rfl ?_
          refine z_iload_n X d_Mod_workTerm_100 rfl ?_
          refine z_iald X (g := (μ.2.1 7)) d_Mod_workTerm_101 (hM.lo 7 (by decide)) (hM.iA 7 800 rfl) (t0 := 0) rfl (vp_of b54) ?_
          refine z_imul X d_Mod_workTerm_102 ?_
          refine z_iload_n X d_Mod_workTerm_103 rfl ?_
          refine z_iadd X d_Mod_workTerm_104 ?_
          refine z_zald X (g := (μ.2.1 19)) d_Mod_workTerm_105 (hM.lo 19 (by decide)) (hM.zA 19 200 rfl) (t0 := 1) rfl (vp_of b81) ?_
          refine z_zastM X d_Mod_workTerm_106 hM 32 400 rfl rfl (vp_of b83) (fun hM => ?_)
          refine zW.pick [0, 1, 3] (lv' := [(0, .ref (A 38)), (1, .int x1), (4, .int x4)]) rfl ?_
          exact (ih).2.1 x1 0 x4 0 _ _ hM h
      · intro x1 x3 x4 x5 f1 μ hM h
        rw [m_workTerm_b1] at h
        refine z_iconst X d_Mod_workTerm_107 (v := 1) (by decide) ?_
        refine z_istore X d_Mod_workTerm_108 (by decide) rfl ?_
        refine zW.pick [0, 1, 2, 3] (lv' := [(0, .ref (A 38)), (1, .int x1), (4, .int x4), (5, .int 1)]) rfl ?_
        exact (ih).2.2.1 x1 0 x4 1 _ _ hM h
      · intro x1 x3 x4 x5 f1 μ hM h
        rw [m_workTerm_b2] at h
        refine z_iload X d_Mod_workTerm_110 rfl ?_
        refine z_bipush X d_Mod_workTerm_112 (v := 10) (by decide) ?_
        refine z_icmp_ge X 197 d_Mod_workTerm_114 (by decide) (fun h114 => ?_) (fun h114 => ?_)
        · skip
          have h := (if_pos h114).symm.trans h
          refine zW.pick [0] (lv' := [(0, .ref (A 38))]) rfl ?_
          exact (ih).2.2.2.2 0 0 0 0 _ _ hM h
        · skip
          have h := (if_neg h114).symm.trans h
          refine z_aload_n X d_Mod_workTerm_117 rfl ?_
          refine z_get X (v := .ref (A 6)) d_Mod_workTerm_118 (hM.lo 38 (by decide)) hM.ob cl_Mod in_Mod 6 (by decide) fl_Mod_13 rfl rfl ?_
          refine z_iload_n X d_Mod_workTerm_121 rfl ?_
          obtain ⟨b122, h⟩ := gd h
          refine z_iald X (g := (μ.2.1 6)) d_Mod_workTerm_122 (hM.lo 6 (by decide)) (hM.iA 6 800 rfl) (t0 := 0) rfl (vp_of b122) ?_
          refine z_bipush X d_Mod_workTerm_123 (v := 12) (by decide) ?_
          refine z_icmp_le X 197 d_Mod_workTerm_125 (by decide) (fun h125 => ?_) (fun h125 => ?_)
          · skip
            have h := (if_pos h125).symm.trans h
            refine zW.pick [0] (lv' := [(0, .ref (A 38))]) rfl ?_
            exact (ih).2.2.2.2 0 0 0 0 _ _ hM h
          · skip
            have h := (if_neg h125).symm.trans h
            refine z_aload_n X d_Mod_workTerm_128 rfl ?_
            refine z_get X (v := .ref (A 19)) d_Mod_workTerm_129 (hM.lo 38 (by decide)) hM.ob cl_Mod in_Mod 19 (by decide) fl_Mod_53 rfl rfl ?_
            refine z_bipush X d_Mod_workTerm_132 (v := 10) (by decide) ?_
            refine z_aload_n X d_Mod_workTerm_134 rfl ?_
            refine z_get X (v := .ref (A 7)) d_Mod_workTerm_135 (hM.lo 38 (by decide)) hM.ob cl_Mod in_Mod 7 (by decide) fl_Mod_16 rfl rfl ?_
            refine z_iload_n X d_Mod_workTerm_138 rfl ?_
            refine z_iald X (g := (μ.2.1 7)) d_Mod_workTerm_139 (hM.lo 7 (by decide)) (hM.iA 7 800 rfl) (t0 := 0) rfl (vp_of b122) ?_
            refine z_imul X d_Mod_workTerm_140 ?_
            refine z_iload X d_Mod_workTerm_141 rfl ?_
            refine z_iadd X d_Mod_workTerm_143 ?_
            obtain ⟨b144, h⟩ := gd h
            refine z_zald X (g := (μ.2.1 19)) d_Mod_workTerm_144 (hM.lo 19 (by decide)) (hM.zA 19 200 rfl) (t0 := 1) rfl (vp_of b144) ?_
            refine z_if_eq X 191 d_Mod_workTerm_145 (by decide) (fun h145 => ?_) (fun h145 => ?_)
            · skip
              have h := (if_pos h145).symm.trans h
              refine zW.pick [0, 1, 2, 3] (lv' := [(0, .ref (A 38)), (1, .int x1), (4, .int x4), (5, .int x5)]) rfl ?_
              exact (ih).2.2.2.1 x1 0 x4 x5 _ _ hM h
            · skip
              have h := (if_neg h145).symm.trans h
              refine z_aload_n X d_Mod_workTerm_148 rfl ?_
              refine z_get X (v := .ref (A 31)) d_Mod_workTerm_149 (hM.lo 38 (by decide)) hM.ob cl_Mod in_Mod 31 (by decide) fl_Mod_74 rfl rfl ?_
              refine z_iload X d_Mod_workTerm_152 rfl ?_
              refine z_dup2 X d_Mod_workTerm_154 rfl rfl ?_
              obtain ⟨b155, h⟩ := gd h
              refine z_lald X (g := μ.2.2) d_Mod_workTerm_155 (hM.lo 31 (by decide)) hM.jA (t0 := 2) rfl (vp_of b155) ?_
              refine z_aload_n X d_Mod_workTerm_156 rfl ?_
              refine z_get X (v := .ref (A 6)) d_Mod_workTerm_157 (hM.lo 38 (by decide)) hM.ob cl_Mod in_Mod 6 (by decide) fl_Mod_13 rfl rfl ?_
              refine z_iload_n X d_Mod_workTerm_160 rfl ?_
              refine z_iald X (g := (μ.2.1 6)) d_Mod_workTerm_161 (hM.lo 6 (by decide)) (hM.iA 6 800 rfl) (t0 := 0) rfl (vp_of b122) ?_
              refine z_bipush X d_Mod_workTerm_162 (v := 13) (by decide) ?_
              refine z_icmp_ne X 188 d_Mod_workTerm_164 (by decide) (fun h164 => ?_) (fun h164 => ?_)
              · skip
                have h := (if_neg h164).symm.trans h
                refine z_lconst X d_Mod_workTerm_188 (v := 1) (by decide) ?_
                refine z_ladd X d_Mod_workTerm_189 ?_
                refine z_lastM X d_Mod_workTerm_190 hM rfl (vp_of b155) (fun hM => ?_)
                refine zW.pick [0, 1, 2, 3] (lv' := [(0, .ref (A 38)), (1, .int x1), (4, .int x4), (5, .int x5)]) rfl ?_
                exact (ih).2.2.2.1 x1 0 x4 x5 _ _ hM h
              · skip
                have h := (if_pos h164).symm.trans h
                refine z_aload_n X d_Mod_workTerm_167 rfl ?_
                refine z_get X (v := .ref (A 18)) d_Mod_workTerm_168 (hM.lo 38 (by decide)) hM.ob cl_Mod in_Mod 18 (by decide) fl_Mod_50 rfl rfl ?_
                refine z_bipush X d_Mod_workTerm_171 (v := 10) (by decide) ?_
                refine z_aload_n X d_Mod_workTerm_173 rfl ?_
                refine z_get X (v := .ref (A 7)) d_Mod_workTerm_174 (hM.lo 38 (by decide)) hM.ob cl_Mod in_Mod 7 (by decide) fl_Mod_16 rfl rfl ?_
                refine z_iload_n X d_Mod_workTerm_177 rfl ?_
                refine z_iald X (g := (μ.2.1 7)) d_Mod_workTerm_178 (hM.lo 7 (by decide)) (hM.iA 7 800 rfl) (t0 := 0) rfl (vp_of b122) ?_
                refine z_imul X d_Mod_workTerm_179 ?_
                refine z_iload X d_Mod_workTerm_180 rfl ?_
                refine z_iadd X d_Mod_workTerm_182 ?_
                refine z_iald X (g := (μ.2.1 18)) d_Mod_workTerm_183 (hM.lo 18 (by decide)) (hM.iA 18 200 rfl) (t0 := 0) rfl (vp_of b144) ?_
                refine z_i2l X d_Mod_workTerm_184 rfl ?_
                refine z_goto X 189 d_Mod_workTerm_185 (by decide) ?_
                refine z_ladd X d_Mod_workTerm_189 ?_
                refine z_lastM X d_Mod_workTerm_190 hM rfl (vp_of b155) (fun hM => ?_)
                refine zW.pick [0, 1, 2, 3] (lv' := [(0, .ref (A 38)), (1, .int x1), (4, .int x4), (5, .int x5)]) rfl ?_
                exact (ih).2.2.2.1 x1 0 x4 x5 _ _ hM h
      · intro x1 x3 x4 x5 f1 μ hM h
        rw [m_workTerm_b3] at h
        refine z_iinc X d_Mod_workTerm_191 rfl (iic 1 1 (by decide) _) (by decide) rfl ?_
        refine z_goto X 110 d_Mod_workTerm_194 (by decide) ?_
        refine zW.pick [0, 1, 2, 3] (lv' := [(0, .ref (A 38)), (1, .int x1), (4, .int x4), (5, .int (x5 + 1))]) rfl ?_
        exact (ih).2.2.1 x1 0 x4 (x5 + 1) _ _ hM h
      · intro x1 x3 x4 x5 f1 μ hM h
        rw [m_workTerm_b4] at h
        have e9 := Option.some.inj h
        subst e9
        exact z_vret X d_Mod_workTerm_197 ⟨rfl, rfl, hM⟩
  rw [m_workTerm] at h
  refine z_bipush X d_Mod_workTerm_0 (v := 10) (by decide) ?_
  refine z_iload_n X d_Mod_workTerm_2 rfl ?_
  refine z_imul X d_Mod_workTerm_3 ?_
  refine z_iload_n X d_Mod_workTerm_4 rfl ?_
  refine z_iadd X d_Mod_workTerm_5 ?_
  refine z_istore X d_Mod_workTerm_6 (by decide) rfl ?_
  refine z_aload_n X d_Mod_workTerm_8 rfl ?_
  refine z_get X (v := .ref (A 32)) d_Mod_workTerm_9 (hM.lo 38 (by decide)) hM.ob cl_Mod in_Mod 32 (by decide) fl_Mod_78 rfl rfl ?_
  refine z_iload X d_Mod_workTerm_12 rfl ?_
  refine z_iconst X d_Mod_workTerm_14 (v := 1) (by decide) ?_
  obtain ⟨b15, h⟩ := gd h
  refine z_zastM X d_Mod_workTerm_15 hM 32 400 rfl rfl (vp_of b15) (fun hM => ?_)
  refine z_aload_n X d_Mod_workTerm_16 rfl ?_
  refine z_get X (v := .ref (A 31)) d_Mod_workTerm_17 (hM.lo 38 (by decide)) hM.ob cl_Mod in_Mod 31 (by decide) fl_Mod_74 rfl rfl ?_
  refine z_iload X d_Mod_workTerm_20 rfl ?_
  refine z_lconst X d_Mod_workTerm_22 (v := 0) (by decide) ?_
  refine z_lastM X d_Mod_workTerm_23 hM rfl (vp_of b15) (fun hM => ?_)
  refine z_aload_n X d_Mod_workTerm_24 rfl ?_
  refine z_get X (v := .ref (A 6)) d_Mod_workTerm_25 (hM.lo 38 (by decide)) hM.ob cl_Mod in_Mod 6 (by decide) fl_Mod_13 rfl rfl ?_
  refine z_iload_n X d_Mod_workTerm_28 rfl ?_
  obtain ⟨b29, h⟩ := gd h
  refine z_iald X (g := (μ.2.1 6)) d_Mod_workTerm_29 (hM.lo 6 (by decide)) (hM.iA 6 800 rfl) (t0 := 0) rfl (vp_of b29) ?_
  refine z_bipush X d_Mod_workTerm_30 (v := 11) (by decide) ?_
  refine z_icmp_ne X 49 d_Mod_workTerm_32 (by decide) (fun h32 => ?_) (fun h32 => ?_)
  · skip
    have h := (if_neg h32).symm.trans h
    refine zW.pick [0, 1, 3, 4] (lv' := [(0, .ref (A 38)), (1, .int x1), (3, .int x3), (4, .int ((10 * x2) + x3))]) rfl ?_
    exact (L 4096).1 x1 x3 ((10 * x2) + x3) 0 _ _ hM h
  · skip
    have h := (if_pos h32).symm.trans h
    refine z_aload_n X d_Mod_workTerm_35 rfl ?_
    refine z_get X (v := .ref (A 31)) d_Mod_workTerm_36 (hM.lo 38 (by decide)) hM.ob cl_Mod in_Mod 31 (by decide) fl_Mod_74 rfl rfl ?_
    refine z_iload X d_Mod_workTerm_39 rfl ?_
    refine z_aload_n X d_Mod_workTerm_41 rfl ?_
    refine z_get X (v := .ref (A 7)) d_Mod_workTerm_42 (hM.lo 38 (by decide)) hM.ob cl_Mod in_Mod 7 (by decide) fl_Mod_16 rfl rfl ?_
    refine z_iload_n X d_Mod_workTerm_45 rfl ?_
    refine z_iald X (g := (μ.2.1 7)) d_Mod_workTerm_46 (hM.lo 7 (by decide)) (hM.iA 7 800 rfl) (t0 := 0) rfl (vp_of b29) ?_
    refine z_i2l X d_Mod_workTerm_47 rfl ?_
    refine z_lastM X d_Mod_workTerm_48 hM rfl (vp_of b15) (fun hM => ?_)
    refine zW.pick [0, 1, 3, 4] (lv' := [(0, .ref (A 38)), (1, .int x1), (3, .int x3), (4, .int ((10 * x2) + x3))]) rfl ?_
    exact (L 4096).1 x1 x3 ((10 * x2) + x3) 0 _ _ hM h
theorem d_Mod_and_0 : decode prog_10_method_32_code 0 = .ok (.iload_n 0, 1) := by decide +kernel
theorem d_Mod_and_1 : decode prog_10_method_32_code 1 = .ok (.ifCond .eq 7, 3) := by decide +kernel
theorem d_Mod_and_4 : decode prog_10_method_32_code 4 = .ok (.iload_n 1, 1) := by decide +kernel
theorem d_Mod_and_5 : decode prog_10_method_32_code 5 = .ok (.ifCond .ne 7, 3) := by decide +kernel
theorem d_Mod_and_8 : decode prog_10_method_32_code 8 = .ok (.iconst 0, 1) := by decide +kernel
theorem d_Mod_and_9 : decode prog_10_method_32_code 9 = .ok (.goto 18, 3) := by decide +kernel
theorem d_Mod_and_12 : decode prog_10_method_32_code 12 = .ok (.iload_n 0, 1) := by decide +kernel
theorem d_Mod_and_13 : decode prog_10_method_32_code 13 = .ok (.iconst 2, 1) := by decide +kernel
theorem d_Mod_and_14 : decode prog_10_method_32_code 14 = .ok (.if_icmp .eq 8, 3) := by decide +kernel
theorem d_Mod_and_17 : decode prog_10_method_32_code 17 = .ok (.iload_n 1, 1) := by decide +kernel
theorem d_Mod_and_18 : decode prog_10_method_32_code 18 = .ok (.iconst 2, 1) := by decide +kernel
theorem d_Mod_and_19 : decode prog_10_method_32_code 19 = .ok (.if_icmp .ne 7, 3) := by decide +kernel
theorem d_Mod_and_22 : decode prog_10_method_32_code 22 = .ok (.iconst 2, 1) := by decide +kernel
theorem d_Mod_and_23 : decode prog_10_method_32_code 23 = .ok (.goto 4, 3) := by decide +kernel
theorem d_Mod_and_26 : decode prog_10_method_32_code 26 = .ok (.iconst 1, 1) := by decide +kernel
theorem d_Mod_and_27 : decode prog_10_method_32_code 27 = .ok (.ireturn, 1) := by decide +kernel
def m_and (x0 x1 : Int32) : Option Int32 := (if x0 = 0 then some 0 else (if x1 = 0 then some 0 else (if x0 = 2 then some 2 else (if x1 = 2 then some 2 else some 1))))
set_option maxHeartbeats 4000000 in
set_option maxRecDepth 100000 in
theorem c_Mod_and {x0 x1 : Int32} {res : Int32} (h : m_and x0 x1 = some res) : zK l D ck ad b0 y_Mod_and prog_10_method_32_code 2 ((some FieldType.int)) 0 0 0 [.int x0, .int x1] N f (fun r N' f' => r = some (.int res) ∧ N = N' ∧ f = f') := by
  refine zM.of zG_w (by decide) (Nat.le_of_ble_eq_true rfl) ?_
  intro zp ze zst zm zar zbe zme zc X hnm hb0
  rw [m_and] at h
  refine z_iload_n X d_Mod_and_0 rfl ?_
  refine z_if_eq X 8 d_Mod_and_1 (by decide) (fun h1 => ?_) (fun h1 => ?_)
  · skip
    have h := (if_pos h1).symm.trans h
    refine z_iconst X d_Mod_and_8 (v := 0) (by decide) ?_
    refine z_goto X 27 d_Mod_and_9 (by decide) ?_
    have e9 := Option.some.inj h
    subst e9
    exact z_iret X d_Mod_and_27 ⟨rfl, rfl, rfl⟩
  · skip
    have h := (if_neg h1).symm.trans h
    refine z_iload_n X d_Mod_and_4 rfl ?_
    refine z_if_ne X 12 d_Mod_and_5 (by decide) (fun h5 => ?_) (fun h5 => ?_)
    · skip
      have h := (if_neg h5).symm.trans h
      refine z_iload_n X d_Mod_and_12 rfl ?_
      refine z_iconst X d_Mod_and_13 (v := 2) (by decide) ?_
      refine z_icmp_eq X 22 d_Mod_and_14 (by decide) (fun h14 => ?_) (fun h14 => ?_)
      · skip
        have h := (if_pos h14).symm.trans h
        refine z_iconst X d_Mod_and_22 (v := 2) (by decide) ?_
        refine z_goto X 27 d_Mod_and_23 (by decide) ?_
        have e9 := Option.some.inj h
        subst e9
        exact z_iret X d_Mod_and_27 ⟨rfl, rfl, rfl⟩
      · skip
        have h := (if_neg h14).symm.trans h
        refine z_iload_n X d_Mod_and_17 rfl ?_
        refine z_iconst X d_Mod_and_18 (v := 2) (by decide) ?_
        refine z_icmp_ne X 26 d_Mod_and_19 (by decide) (fun h19 => ?_) (fun h19 => ?_)
        · skip
          have h := (if_neg h19).symm.trans h
          refine z_iconst X d_Mod_and_26 (v := 1) (by decide) ?_
          have e9 := Option.some.inj h
          subst e9
          exact z_iret X d_Mod_and_27 ⟨rfl, rfl, rfl⟩
        · skip
          have h := (if_pos h19).symm.trans h
          refine z_iconst X d_Mod_and_22 (v := 2) (by decide) ?_
          refine z_goto X 27 d_Mod_and_23 (by decide) ?_
          have e9 := Option.some.inj h
          subst e9
          exact z_iret X d_Mod_and_27 ⟨rfl, rfl, rfl⟩
    · skip
      have h := (if_pos h5).symm.trans h
      refine z_iconst X d_Mod_and_8 (v := 0) (by decide) ?_
      refine z_goto X 27 d_Mod_and_9 (by decide) ?_
      have e9 := Option.some.inj h
      subst e9
      exact z_iret X d_Mod_and_27 ⟨rfl, rfl, rfl⟩
theorem d_Mod_not_0 : decode prog_10_method_33_code 0 = .ok (.iload_n 0, 1) := by decide +kernel
theorem d_Mod_not_1 : decode prog_10_method_33_code 1 = .ok (.iconst 2, 1) := by decide +kernel
theorem d_Mod_not_2 : decode prog_10_method_33_code 2 = .ok (.if_icmp .ne 7, 3) := by decide +kernel
theorem d_Mod_not_5 : decode prog_10_method_33_code 5 = .ok (.iconst 2, 1) := by decide +kernel
theorem d_Mod_not_6 : decode prog_10_method_33_code 6 = .ok (.goto 6, 3) := by decide +kernel
theorem d_Mod_not_9 : decode prog_10_method_33_code 9 = .ok (.iconst 1, 1) := by decide +kernel
theorem d_Mod_not_10 : decode prog_10_method_33_code 10 = .ok (.iload_n 0, 1) := by decide +kernel
theorem d_Mod_not_11 : decode prog_10_method_33_code 11 = .ok (.isub, 1) := by decide +kernel
theorem d_Mod_not_12 : decode prog_10_method_33_code 12 = .ok (.ireturn, 1) := by decide +kernel
def m_not (x0 : Int32) : Option Int32 := (if x0 = 2 then some 2 else some (1 - x0))
set_option maxHeartbeats 4000000 in
set_option maxRecDepth 100000 in
theorem c_Mod_not {x0 : Int32} {res : Int32} (h : m_not x0 = some res) : zK l D ck ad b0 y_Mod_not prog_10_method_33_code 1 ((some FieldType.int)) 0 0 0 [.int x0] N f (fun r N' f' => r = some (.int res) ∧ N = N' ∧ f = f') := by
  refine zM.of zG_w (by decide) (Nat.le_of_ble_eq_true rfl) ?_
  intro zp ze zst zm zar zbe zme zc X hnm hb0
  rw [m_not] at h
  refine z_iload_n X d_Mod_not_0 rfl ?_
  refine z_iconst X d_Mod_not_1 (v := 2) (by decide) ?_
  refine z_icmp_ne X 9 d_Mod_not_2 (by decide) (fun h2 => ?_) (fun h2 => ?_)
  · skip
    have h := (if_neg h2).symm.trans h
    refine z_iconst X d_Mod_not_9 (v := 1) (by decide) ?_
    refine z_iload_n X d_Mod_not_10 rfl ?_
    refine z_isub X d_Mod_not_11 ?_
    have e9 := Option.some.inj h
    subst e9
    exact z_iret X d_Mod_not_12 ⟨rfl, rfl, rfl⟩
  · skip
    have h := (if_pos h2).symm.trans h
    refine z_iconst X d_Mod_not_5 (v := 2) (by decide) ?_
    refine z_goto X 12 d_Mod_not_6 (by decide) ?_
    have e9 := Option.some.inj h
    subst e9
    exact z_iret X d_Mod_not_12 ⟨rfl, rfl, rfl⟩
theorem d_Mod_or2_0 : decode prog_10_method_34_code 0 = .ok (.iload_n 0, 1) := by decide +kernel
theorem d_Mod_or2_1 : decode prog_10_method_34_code 1 = .ok (.invokestatic 206, 3) := by decide +kernel
theorem d_Mod_or2_4 : decode prog_10_method_34_code 4 = .ok (.iload_n 1, 1) := by decide +kernel
theorem d_Mod_or2_5 : decode prog_10_method_34_code 5 = .ok (.invokestatic 206, 3) := by decide +kernel
theorem d_Mod_or2_8 : decode prog_10_method_34_code 8 = .ok (.invokestatic 209, 3) := by decide +kernel
theorem d_Mod_or2_11 : decode prog_10_method_34_code 11 = .ok (.invokestatic 206, 3) := by decide +kernel
theorem d_Mod_or2_14 : decode prog_10_method_34_code 14 = .ok (.ireturn, 1) := by decide +kernel
def m_or2 (x0 x1 : Int32) : Option Int32 := (m_not x0).bind (fun p1 => (m_not x1).bind (fun p5 => (m_and p1 p5).bind (fun p8 => (m_not p8).bind (fun p11 => some p11))))
set_option maxHeartbeats 4000000 in
set_option maxRecDepth 100000 in
theorem c_Mod_or2 {x0 x1 : Int32} {res : Int32} (h : m_or2 x0 x1 = some res) : zK l D ck ad b0 y_Mod_or2 prog_10_method_34_code 2 ((some FieldType.int)) 1 0 0 [.int x0, .int x1] N f (fun r N' f' => r = some (.int res) ∧ N = N' ∧ f = f') := by
  refine zM.of zG_w (by decide) (Nat.le_of_ble_eq_true rfl) ?_
  intro zp ze zst zm zar zbe zme zc X hnm hb0
  rw [m_or2] at h
  refine z_iload_n X d_Mod_or2_0 rfl ?_
  obtain ⟨p1, q1, h⟩ := bd h
  refine z_callS X zG_ok (c_Mod_not q1) d_Mod_or2_1 ⟨(z_cb (n := 1) X.2.2.2.2.1 ml_Mod_206 mc_Mod_not ini_Mod (by decide +kernel) rfl rfl ⟨Nat.le_of_ble_eq_true rfl, Nat.le_of_ble_eq_true rfl⟩), X.2.2.2.2.1 _ st_Mod_not⟩ rfl rfl (Nat.le_of_ble_eq_true rfl) ⟨Nat.le_of_ble_eq_true rfl, Nat.le_of_ble_eq_true rfl⟩ (fun r N1 f1 hp hN1 => ?_)
  obtain ⟨rfl, rfl, rfl⟩ := hp
  refine z_iload_n X d_Mod_or2_4 rfl ?_
  obtain ⟨p5, q5, h⟩ := bd h
  refine z_callS X zG_ok (c_Mod_not q5) d_Mod_or2_5 ⟨(z_cb (n := 1) X.2.2.2.2.1 ml_Mod_206 mc_Mod_not ini_Mod (by decide +kernel) rfl rfl ⟨Nat.le_of_ble_eq_true rfl, Nat.le_of_ble_eq_true rfl⟩), X.2.2.2.2.1 _ st_Mod_not⟩ rfl rfl (Nat.le_of_ble_eq_true rfl) ⟨Nat.le_of_ble_eq_true rfl, Nat.le_of_ble_eq_true rfl⟩ (fun r N1 f1 hp hN1 => ?_)
  obtain ⟨rfl, rfl, rfl⟩ := hp
  obtain ⟨p8, q8, h⟩ := bd h
  refine z_callS X zG_ok (c_Mod_and q8) d_Mod_or2_8 ⟨(z_cb (n := 2) X.2.2.2.2.1 ml_Mod_209 mc_Mod_and ini_Mod (by decide +kernel) rfl rfl ⟨Nat.le_of_ble_eq_true rfl, Nat.le_of_ble_eq_true rfl⟩), X.2.2.2.2.1 _ st_Mod_and⟩ rfl rfl (Nat.le_of_ble_eq_true rfl) ⟨Nat.le_of_ble_eq_true rfl, Nat.le_of_ble_eq_true rfl⟩ (fun r N1 f1 hp hN1 => ?_)
  obtain ⟨rfl, rfl, rfl⟩ := hp
  obtain ⟨p11, q11, h⟩ := bd h
  refine z_callS X zG_ok (c_Mod_not q11) d_Mod_or2_11 ⟨(z_cb (n := 1) X.2.2.2.2.1 ml_Mod_206 mc_Mod_not ini_Mod (by decide +kernel) rfl rfl ⟨Nat.le_of_ble_eq_true rfl, Nat.le_of_ble_eq_true rfl⟩), X.2.2.2.2.1 _ st_Mod_not⟩ rfl rfl (Nat.le_of_ble_eq_true rfl) ⟨Nat.le_of_ble_eq_true rfl, Nat.le_of_ble_eq_true rfl⟩ (fun r N1 f1 hp hN1 => ?_)
  obtain ⟨rfl, rfl, rfl⟩ := hp
  have e9 := Option.some.inj h
  subst e9
  exact z_iret X d_Mod_or2_14 ⟨rfl, rfl, rfl⟩
theorem d_Mod_compared_0 : decode prog_10_method_35_code 0 = .ok (.aload_n 0, 1) := by decide +kernel
theorem d_Mod_compared_1 : decode prog_10_method_35_code 1 = .ok (.getfield 78, 3) := by decide +kernel
theorem d_Mod_compared_4 : decode prog_10_method_35_code 4 = .ok (.iload_n 2, 1) := by decide +kernel
theorem d_Mod_compared_5 : decode prog_10_method_35_code 5 = .ok (.baload, 1) := by decide +kernel
theorem d_Mod_compared_6 : decode prog_10_method_35_code 6 = .ok (.ifCond .eq 12, 3) := by decide +kernel
theorem d_Mod_compared_9 : decode prog_10_method_35_code 9 = .ok (.aload_n 0, 1) := by decide +kernel
theorem d_Mod_compared_10 : decode prog_10_method_35_code 10 = .ok (.getfield 78, 3) := by decide +kernel
theorem d_Mod_compared_13 : decode prog_10_method_35_code 13 = .ok (.iload_n 3, 1) := by decide +kernel
theorem d_Mod_compared_14 : decode prog_10_method_35_code 14 = .ok (.baload, 1) := by decide +kernel
theorem d_Mod_compared_15 : decode prog_10_method_35_code 15 = .ok (.ifCond .ne 5, 3) := by decide +kernel
theorem d_Mod_compared_18 : decode prog_10_method_35_code 18 = .ok (.iconst 2, 1) := by decide +kernel
theorem d_Mod_compared_19 : decode prog_10_method_35_code 19 = .ok (.ireturn, 1) := by decide +kernel
theorem d_Mod_compared_20 : decode prog_10_method_35_code 20 = .ok (.aload_n 0, 1) := by decide +kernel
theorem d_Mod_compared_21 : decode prog_10_method_35_code 21 = .ok (.getfield 74, 3) := by decide +kernel
theorem d_Mod_compared_24 : decode prog_10_method_35_code 24 = .ok (.iload_n 2, 1) := by decide +kernel
theorem d_Mod_compared_25 : decode prog_10_method_35_code 25 = .ok (.laload, 1) := by decide +kernel
theorem d_Mod_compared_26 : decode prog_10_method_35_code 26 = .ok (.aload_n 0, 1) := by decide +kernel
theorem d_Mod_compared_27 : decode prog_10_method_35_code 27 = .ok (.getfield 74, 3) := by decide +kernel
theorem d_Mod_compared_30 : decode prog_10_method_35_code 30 = .ok (.iload_n 3, 1) := by decide +kernel
theorem d_Mod_compared_31 : decode prog_10_method_35_code 31 = .ok (.laload, 1) := by decide +kernel
theorem d_Mod_compared_32 : decode prog_10_method_35_code 32 = .ok (.lsub, 1) := by decide +kernel
theorem d_Mod_compared_33 : decode prog_10_method_35_code 33 = .ok (.lstore 4, 2) := by decide +kernel
theorem d_Mod_compared_35 : decode prog_10_method_35_code 35 = .ok (.iload_n 1, 1) := by decide +kernel
theorem d_Mod_compared_36 : decode prog_10_method_35_code 36 = .ok (.iconst 5, 1) := by decide +kernel
theorem d_Mod_compared_37 : decode prog_10_method_35_code 37 = .ok (.if_icmp .ne 18, 3) := by decide +kernel
theorem d_Mod_compared_40 : decode prog_10_method_35_code 40 = .ok (.lload 4, 2) := by decide +kernel
theorem d_Mod_compared_42 : decode prog_10_method_35_code 42 = .ok (.lconst 0, 1) := by decide +kernel
theorem d_Mod_compared_43 : decode prog_10_method_35_code 43 = .ok (.lcmp, 1) := by decide +kernel
theorem d_Mod_compared_44 : decode prog_10_method_35_code 44 = .ok (.ifCond .ge 7, 3) := by decide +kernel
theorem d_Mod_compared_47 : decode prog_10_method_35_code 47 = .ok (.iconst 1, 1) := by decide +kernel
theorem d_Mod_compared_48 : decode prog_10_method_35_code 48 = .ok (.goto 61, 3) := by decide +kernel
theorem d_Mod_compared_51 : decode prog_10_method_35_code 51 = .ok (.iconst 0, 1) := by decide +kernel
theorem d_Mod_compared_52 : decode prog_10_method_35_code 52 = .ok (.goto 57, 3) := by decide +kernel
theorem d_Mod_compared_55 : decode prog_10_method_35_code 55 = .ok (.iload_n 1, 1) := by decide +kernel
theorem d_Mod_compared_56 : decode prog_10_method_35_code 56 = .ok (.bipush 6, 2) := by decide +kernel
theorem d_Mod_compared_58 : decode prog_10_method_35_code 58 = .ok (.if_icmp .ne 18, 3) := by decide +kernel
theorem d_Mod_compared_61 : decode prog_10_method_35_code 61 = .ok (.lload 4, 2) := by decide +kernel
theorem d_Mod_compared_63 : decode prog_10_method_35_code 63 = .ok (.lconst 0, 1) := by decide +kernel
theorem d_Mod_compared_64 : decode prog_10_method_35_code 64 = .ok (.lcmp, 1) := by decide +kernel
theorem d_Mod_compared_65 : decode prog_10_method_35_code 65 = .ok (.ifCond .le 7, 3) := by decide +kernel
theorem d_Mod_compared_68 : decode prog_10_method_35_code 68 = .ok (.iconst 1, 1) := by decide +kernel
theorem d_Mod_compared_69 : decode prog_10_method_35_code 69 = .ok (.goto 40, 3) := by decide +kernel
theorem d_Mod_compared_72 : decode prog_10_method_35_code 72 = .ok (.iconst 0, 1) := by decide +kernel
theorem d_Mod_compared_73 : decode prog_10_method_35_code 73 = .ok (.goto 36, 3) := by decide +kernel
theorem d_Mod_compared_76 : decode prog_10_method_35_code 76 = .ok (.iload_n 1, 1) := by decide +kernel
theorem d_Mod_compared_77 : decode prog_10_method_35_code 77 = .ok (.bipush 7, 2) := by decide +kernel
theorem d_Mod_compared_79 : decode prog_10_method_35_code 79 = .ok (.if_icmp .ne 18, 3) := by decide +kernel
theorem d_Mod_compared_82 : decode prog_10_method_35_code 82 = .ok (.lload 4, 2) := by decide +kernel
theorem d_Mod_compared_84 : decode prog_10_method_35_code 84 = .ok (.lconst 0, 1) := by decide +kernel
theorem d_Mod_compared_85 : decode prog_10_method_35_code 85 = .ok (.lcmp, 1) := by decide +kernel
theorem d_Mod_compared_86 : decode prog_10_method_35_code 86 = .ok (.ifCond .ne 7, 3) := by decide +kernel
theorem d_Mod_compared_89 : decode prog_10_method_35_code 89 = .ok (.iconst 1, 1) := by decide +kernel
theorem d_Mod_compared_90 : decode prog_10_method_35_code 90 = .ok (.goto 19, 3) := by decide +kernel
theorem d_Mod_compared_93 : decode prog_10_method_35_code 93 = .ok (.iconst 0, 1) := by decide +kernel
theorem d_Mod_compared_94 : decode prog_10_method_35_code 94 = .ok (.goto 15, 3) := by decide +kernel
theorem d_Mod_compared_97 : decode prog_10_method_35_code 97 = .ok (.lload 4, 2) := by decide +kernel
theorem d_Mod_compared_99 : decode prog_10_method_35_code 99 = .ok (.lconst 0, 1) := by decide +kernel
theorem d_Mod_compared_100 : decode prog_10_method_35_code 100 = .ok (.lcmp, 1) := by decide +kernel
theorem d_Mod_compared_101 : decode prog_10_method_35_code 101 = .ok (.ifCond .eq 7, 3) := by decide +kernel
theorem d_Mod_compared_104 : decode prog_10_method_35_code 104 = .ok (.iconst 1, 1) := by decide +kernel
theorem d_Mod_compared_105 : decode prog_10_method_35_code 105 = .ok (.goto 4, 3) := by decide +kernel
theorem d_Mod_compared_108 : decode prog_10_method_35_code 108 = .ok (.iconst 0, 1) := by decide +kernel
theorem d_Mod_compared_109 : decode prog_10_method_35_code 109 = .ok (.istore 6, 2) := by decide +kernel
theorem d_Mod_compared_111 : decode prog_10_method_35_code 111 = .ok (.iload 6, 2) := by decide +kernel
theorem d_Mod_compared_113 : decode prog_10_method_35_code 113 = .ok (.ifCond .eq 7, 3) := by decide +kernel
theorem d_Mod_compared_116 : decode prog_10_method_35_code 116 = .ok (.iconst 1, 1) := by decide +kernel
theorem d_Mod_compared_117 : decode prog_10_method_35_code 117 = .ok (.goto 4, 3) := by decide +kernel
theorem d_Mod_compared_120 : decode prog_10_method_35_code 120 = .ok (.iconst 0, 1) := by decide +kernel
theorem d_Mod_compared_121 : decode prog_10_method_35_code 121 = .ok (.ireturn, 1) := by decide +kernel
def m_compared_B : Nat → Nat → Int32 → MS → Option (Int32 × MS)
  | 0, _, _, _ => none
  | n + 1, b, y0, μ => if b = 0 then some (2, μ)
    else (if y0 = 0 then some (0, μ) else some (1, μ))
theorem m_compared_b0 (n : Nat) (y0 : Int32) (μ : MS) : m_compared_B (n + 1) 0 y0 μ = some (2, μ) := by
  rw [m_compared_B, if_pos rfl]
theorem m_compared_b1 (n : Nat) (y0 : Int32) (μ : MS) : m_compared_B (n + 1) 1 y0 μ = (if y0 = 0 then some (0, μ) else some (1, μ)) := by
  rw [m_compared_B, if_neg (by decide)]
def m_compared (x1 x2 x3 : Int32) (μ : MS) : Option (Int32 × MS) := (if inb x2 400 = true then (if ((μ.2.1 32) x2.toNatClampNeg) = 0 then m_compared_B 4096 0 0 μ else (if inb x3 400 = true then (if ((μ.2.1 32) x3.toNatClampNeg) = 0 then m_compared_B 4096 0 0 μ else (if x1 = 5 then (if 0 ≤ (lg_cmp ((μ.2.2 x2.toNatClampNeg) - (μ.2.2 x3.toNatClampNeg)) 0) then m_compared_B 4096 1 0 μ else m_compared_B 4096 1 1 μ) else (if x1 = 6 then (if (lg_cmp ((μ.2.2 x2.toNatClampNeg) - (μ.2.2 x3.toNatClampNeg)) 0) ≤ 0 then m_compared_B 4096 1 0 μ else m_compared_B 4096 1 1 μ) else (if x1 = 7 then (if (lg_cmp ((μ.2.2 x2.toNatClampNeg) - (μ.2.2 x3.toNatClampNeg)) 0) = 0 then m_compared_B 4096 1 1 μ else m_compared_B 4096 1 0 μ) else (if (lg_cmp ((μ.2.2 x2.toNatClampNeg) - (μ.2.2 x3.toNatClampNeg)) 0) = 0 then m_compared_B 4096 1 0 μ else m_compared_B 4096 1 1 μ))))) else none)) else none)
set_option maxHeartbeats 4000000 in
set_option maxRecDepth 100000 in
theorem c_Mod_compared {A : Nat → Nat} {f0 : Nat → va_E} {μ : MS} {x1 x2 x3 : Int32} {res : (Int32 × MS)} (hM : zMf ck b0 N A f0 f μ) (h : m_compared x1 x2 x3 μ = some res) : zK l D ck ad b0 y_Mod_compared prog_10_method_35_code 7 ((some FieldType.int)) 0 0 0 [.ref (A 38), .int x1, .int x2, .int x3] N f (fun r N' f' => r = some (.int res.1) ∧ N = N' ∧ zMf ck b0 N A f0 f' res.2) := by
  refine zM.of zG_w (by decide) (Nat.le_of_ble_eq_true rfl) ?_
  intro zp ze zst zm zar zbe zme zc X hnm hb0
  have L : ∀ n : Nat, (∀ (y0 : Int32) (f1 : Nat → va_E) (μ : MS), zMf ck b0 N A f0 f1 μ → m_compared_B n 0 y0 μ = some res → zW zp l ze (zR 0 0 0) zst zm zar zbe zme zc D zcl b0 7 0 0 (MQ zbe (zQ D zcl b0 (fun r N' f' => r = some (.int res.1) ∧ N = N' ∧ zMf ck b0 N A f0 f' res.2)) zar zst 0 0 (zA b0)) N f1 18 [(0, .ref (A 38))] []) ∧ (∀ (y0 : Int32) (f1 : Nat → va_E) (μ : MS), zMf ck b0 N A f0 f1 μ → m_compared_B n 1 y0 μ = some res → zW zp l ze (zR 0 0 0) zst zm zar zbe zme zc D zcl b0 7 0 0 (MQ zbe (zQ D zcl b0 (fun r N' f' => r = some (.int res.1) ∧ N = N' ∧ zMf ck b0 N A f0 f' res.2)) zar zst 0 0 (zA b0)) N f1 109 [(0, .ref (A 38))] [.int y0]) := by
    intro n
    induction n with
    | zero =>
      exact ⟨fun _ _ _ _ h => (by rw [m_compared_B] at h; cases h), fun _ _ _ _ h => (by rw [m_compared_B] at h; cases h)⟩
    | succ n ih =>
      refine ⟨?_, ?_⟩
      · intro y0 f1 μ hM h
        rw [m_compared_b0] at h
        refine z_iconst X d_Mod_compared_18 (v := 2) (by decide) ?_
        have e9 := Option.some.inj h
        subst e9
        exact z_iret X d_Mod_compared_19 ⟨rfl, rfl, hM⟩
      · intro y0 f1 μ hM h
        rw [m_compared_b1] at h
        refine z_istore X d_Mod_compared_109 (by decide) rfl ?_
        refine z_iload X d_Mod_compared_111 rfl ?_
        refine z_if_eq X 120 d_Mod_compared_113 (by decide) (fun h113 => ?_) (fun h113 => ?_)
        · skip
          have h := (if_pos h113).symm.trans h
          refine z_iconst X d_Mod_compared_120 (v := 0) (by decide) ?_
          have e9 := Option.some.inj h
          subst e9
          exact z_iret X d_Mod_compared_121 ⟨rfl, rfl, hM⟩
        · skip
          have h := (if_neg h113).symm.trans h
          refine z_iconst X d_Mod_compared_116 (v := 1) (by decide) ?_
          refine z_goto X 121 d_Mod_compared_117 (by decide) ?_
          have e9 := Option.some.inj h
          subst e9
          exact z_iret X d_Mod_compared_121 ⟨rfl, rfl, hM⟩
  rw [m_compared] at h
  refine z_aload_n X d_Mod_compared_0 rfl ?_
  refine z_get X (v := .ref (A 32)) d_Mod_compared_1 (hM.lo 38 (by decide)) hM.ob cl_Mod in_Mod 32 (by decide) fl_Mod_78 rfl rfl ?_
  refine z_iload_n X d_Mod_compared_4 rfl ?_
  obtain ⟨b5, h⟩ := gd h
  refine z_zald X (g := (μ.2.1 32)) d_Mod_compared_5 (hM.lo 32 (by decide)) (hM.zA 32 400 rfl) (t0 := 1) rfl (vp_of b5) ?_
  refine z_if_eq X 18 d_Mod_compared_6 (by decide) (fun h6 => ?_) (fun h6 => ?_)
  · skip
    have h := (if_pos h6).symm.trans h
    refine zW.pick [0] (lv' := [(0, .ref (A 38))]) rfl ?_
    exact (L 4096).1 0 _ _ hM h
  · skip
    have h := (if_neg h6).symm.trans h
    refine z_aload_n X d_Mod_compared_9 rfl ?_
    refine z_get X (v := .ref (A 32)) d_Mod_compared_10 (hM.lo 38 (by decide)) hM.ob cl_Mod in_Mod 32 (by decide) fl_Mod_78 rfl rfl ?_
    refine z_iload_n X d_Mod_compared_13 rfl ?_
    obtain ⟨b14, h⟩ := gd h
    refine z_zald X (g := (μ.2.1 32)) d_Mod_compared_14 (hM.lo 32 (by decide)) (hM.zA 32 400 rfl) (t0 := 1) rfl (vp_of b14) ?_
    refine z_if_ne X 20 d_Mod_compared_15 (by decide) (fun h15 => ?_) (fun h15 => ?_)
    · skip
      have h := (if_neg h15).symm.trans h
      refine z_aload_n X d_Mod_compared_20 rfl ?_
      refine z_get X (v := .ref (A 31)) d_Mod_compared_21 (hM.lo 38 (by decide)) hM.ob cl_Mod in_Mod 31 (by decide) fl_Mod_74 rfl rfl ?_
      refine z_iload_n X d_Mod_compared_24 rfl ?_
      refine z_lald X (g := μ.2.2) d_Mod_compared_25 (hM.lo 31 (by decide)) hM.jA (t0 := 2) rfl (vp_of b5) ?_
      refine z_aload_n X d_Mod_compared_26 rfl ?_
      refine z_get X (v := .ref (A 31)) d_Mod_compared_27 (hM.lo 38 (by decide)) hM.ob cl_Mod in_Mod 31 (by decide) fl_Mod_74 rfl rfl ?_
      refine z_iload_n X d_Mod_compared_30 rfl ?_
      refine z_lald X (g := μ.2.2) d_Mod_compared_31 (hM.lo 31 (by decide)) hM.jA (t0 := 2) rfl (vp_of b14) ?_
      refine z_lsub X d_Mod_compared_32 ?_
      refine z_lstore X d_Mod_compared_33 (by decide) rfl ?_
      refine z_iload_n X d_Mod_compared_35 rfl ?_
      refine z_iconst X d_Mod_compared_36 (v := 5) (by decide) ?_
      refine z_icmp_ne X 55 d_Mod_compared_37 (by decide) (fun h37 => ?_) (fun h37 => ?_)
      · skip
        have h := (if_neg h37).symm.trans h
        refine z_iload_n X d_Mod_compared_55 rfl ?_
        refine z_bipush X d_Mod_compared_56 (v := 6) (by decide) ?_
        refine z_icmp_ne X 76 d_Mod_compared_58 (by decide) (fun h58 => ?_) (fun h58 => ?_)
        · skip
          have h := (if_neg h58).symm.trans h
          refine z_iload_n X d_Mod_compared_76 rfl ?_
          refine z_bipush X d_Mod_compared_77 (v := 7) (by decide) ?_
          refine z_icmp_ne X 97 d_Mod_compared_79 (by decide) (fun h79 => ?_) (fun h79 => ?_)
          · skip
            have h := (if_neg h79).symm.trans h
            refine z_lload X d_Mod_compared_97 rfl ?_
            refine z_lconst X d_Mod_compared_99 (v := 0) (by decide) ?_
            refine z_lcmp X d_Mod_compared_100 ?_
            refine z_if_eq X 108 d_Mod_compared_101 (by decide) (fun h101 => ?_) (fun h101 => ?_)
            · skip
              have h := (if_pos h101).symm.trans h
              refine z_iconst X d_Mod_compared_108 (v := 0) (by decide) ?_
              refine zW.pick [0] (lv' := [(0, .ref (A 38))]) rfl ?_
              exact (L 4096).2 0 _ _ hM h
            · skip
              have h := (if_neg h101).symm.trans h
              refine z_iconst X d_Mod_compared_104 (v := 1) (by decide) ?_
              refine z_goto X 109 d_Mod_compared_105 (by decide) ?_
              refine zW.pick [0] (lv' := [(0, .ref (A 38))]) rfl ?_
              exact (L 4096).2 1 _ _ hM h
          · skip
            have h := (if_pos h79).symm.trans h
            refine z_lload X d_Mod_compared_82 rfl ?_
            refine z_lconst X d_Mod_compared_84 (v := 0) (by decide) ?_
            refine z_lcmp X d_Mod_compared_85 ?_
            refine z_if_ne X 93 d_Mod_compared_86 (by decide) (fun h86 => ?_) (fun h86 => ?_)
            · skip
              have h := (if_neg h86).symm.trans h
              refine z_iconst X d_Mod_compared_93 (v := 0) (by decide) ?_
              refine z_goto X 109 d_Mod_compared_94 (by decide) ?_
              refine zW.pick [0] (lv' := [(0, .ref (A 38))]) rfl ?_
              exact (L 4096).2 0 _ _ hM h
            · skip
              have h := (if_pos h86).symm.trans h
              refine z_iconst X d_Mod_compared_89 (v := 1) (by decide) ?_
              refine z_goto X 109 d_Mod_compared_90 (by decide) ?_
              refine zW.pick [0] (lv' := [(0, .ref (A 38))]) rfl ?_
              exact (L 4096).2 1 _ _ hM h
        · skip
          have h := (if_pos h58).symm.trans h
          refine z_lload X d_Mod_compared_61 rfl ?_
          refine z_lconst X d_Mod_compared_63 (v := 0) (by decide) ?_
          refine z_lcmp X d_Mod_compared_64 ?_
          refine z_if_le X 72 d_Mod_compared_65 (by decide) (fun h65 => ?_) (fun h65 => ?_)
          · skip
            have h := (if_pos h65).symm.trans h
            refine z_iconst X d_Mod_compared_72 (v := 0) (by decide) ?_
            refine z_goto X 109 d_Mod_compared_73 (by decide) ?_
            refine zW.pick [0] (lv' := [(0, .ref (A 38))]) rfl ?_
            exact (L 4096).2 0 _ _ hM h
          · skip
            have h := (if_neg h65).symm.trans h
            refine z_iconst X d_Mod_compared_68 (v := 1) (by decide) ?_
            refine z_goto X 109 d_Mod_compared_69 (by decide) ?_
            refine zW.pick [0] (lv' := [(0, .ref (A 38))]) rfl ?_
            exact (L 4096).2 1 _ _ hM h
      · skip
        have h := (if_pos h37).symm.trans h
        refine z_lload X d_Mod_compared_40 rfl ?_
        refine z_lconst X d_Mod_compared_42 (v := 0) (by decide) ?_
        refine z_lcmp X d_Mod_compared_43 ?_
        refine z_if_ge X 51 d_Mod_compared_44 (by decide) (fun h44 => ?_) (fun h44 => ?_)
        · skip
          have h := (if_pos h44).symm.trans h
          refine z_iconst X d_Mod_compared_51 (v := 0) (by decide) ?_
          refine z_goto X 109 d_Mod_compared_52 (by decide) ?_
          refine zW.pick [0] (lv' := [(0, .ref (A 38))]) rfl ?_
          exact (L 4096).2 0 _ _ hM h
        · skip
          have h := (if_neg h44).symm.trans h
          refine z_iconst X d_Mod_compared_47 (v := 1) (by decide) ?_
          refine z_goto X 109 d_Mod_compared_48 (by decide) ?_
          refine zW.pick [0] (lv' := [(0, .ref (A 38))]) rfl ?_
          exact (L 4096).2 1 _ _ hM h
    · skip
      have h := (if_pos h15).symm.trans h
      refine zW.pick [0] (lv' := [(0, .ref (A 38))]) rfl ?_
      exact (L 4096).1 0 _ _ hM h
theorem d_Mod_over_0 : decode prog_10_method_36_code 0 = .ok (.iload_n 1, 1) := by decide +kernel
theorem d_Mod_over_1 : decode prog_10_method_36_code 1 = .ok (.iconst 3, 1) := by decide +kernel
theorem d_Mod_over_2 : decode prog_10_method_36_code 2 = .ok (.if_icmp .ne 7, 3) := by decide +kernel
theorem d_Mod_over_5 : decode prog_10_method_36_code 5 = .ok (.iconst 1, 1) := by decide +kernel
theorem d_Mod_over_6 : decode prog_10_method_36_code 6 = .ok (.goto 4, 3) := by decide +kernel
theorem d_Mod_over_9 : decode prog_10_method_36_code 9 = .ok (.iconst 0, 1) := by decide +kernel
theorem d_Mod_over_10 : decode prog_10_method_36_code 10 = .ok (.istore_n 3, 1) := by decide +kernel
theorem d_Mod_over_11 : decode prog_10_method_36_code 11 = .ok (.iconst 1, 1) := by decide +kernel
theorem d_Mod_over_12 : decode prog_10_method_36_code 12 = .ok (.istore 4, 2) := by decide +kernel
theorem d_Mod_over_14 : decode prog_10_method_36_code 14 = .ok (.iload 4, 2) := by decide +kernel
theorem d_Mod_over_16 : decode prog_10_method_36_code 16 = .ok (.bipush 10, 2) := by decide +kernel
theorem d_Mod_over_18 : decode prog_10_method_36_code 18 = .ok (.if_icmp .ge 59, 3) := by decide +kernel
theorem d_Mod_over_21 : decode prog_10_method_36_code 21 = .ok (.aload_n 0, 1) := by decide +kernel
theorem d_Mod_over_22 : decode prog_10_method_36_code 22 = .ok (.iload 4, 2) := by decide +kernel
theorem d_Mod_over_24 : decode prog_10_method_36_code 24 = .ok (.invokevirtual 212, 3) := by decide +kernel
theorem d_Mod_over_27 : decode prog_10_method_36_code 27 = .ok (.ifCond .eq 44, 3) := by decide +kernel
theorem d_Mod_over_30 : decode prog_10_method_36_code 30 = .ok (.iload_n 1, 1) := by decide +kernel
theorem d_Mod_over_31 : decode prog_10_method_36_code 31 = .ok (.iconst 3, 1) := by decide +kernel
theorem d_Mod_over_32 : decode prog_10_method_36_code 32 = .ok (.if_icmp .ne 22, 3) := by decide +kernel
theorem d_Mod_over_35 : decode prog_10_method_36_code 35 = .ok (.iload_n 3, 1) := by decide +kernel
theorem d_Mod_over_36 : decode prog_10_method_36_code 36 = .ok (.aload_n 0, 1) := by decide +kernel
theorem d_Mod_over_37 : decode prog_10_method_36_code 37 = .ok (.getfield 81, 3) := by decide +kernel
theorem d_Mod_over_40 : decode prog_10_method_36_code 40 = .ok (.bipush 10, 2) := by decide +kernel
theorem d_Mod_over_42 : decode prog_10_method_36_code 42 = .ok (.iload_n 2, 1) := by decide +kernel
theorem d_Mod_over_43 : decode prog_10_method_36_code 43 = .ok (.imul, 1) := by decide +kernel
theorem d_Mod_over_44 : decode prog_10_method_36_code 44 = .ok (.iload 4, 2) := by decide +kernel
theorem d_Mod_over_46 : decode prog_10_method_36_code 46 = .ok (.iadd, 1) := by decide +kernel
theorem d_Mod_over_47 : decode prog_10_method_36_code 47 = .ok (.iaload, 1) := by decide +kernel
theorem d_Mod_over_48 : decode prog_10_method_36_code 48 = .ok (.invokestatic 209, 3) := by decide +kernel
theorem d_Mod_over_51 : decode prog_10_method_36_code 51 = .ok (.goto 19, 3) := by decide +kernel
theorem d_Mod_over_54 : decode prog_10_method_36_code 54 = .ok (.iload_n 3, 1) := by decide +kernel
theorem d_Mod_over_55 : decode prog_10_method_36_code 55 = .ok (.aload_n 0, 1) := by decide +kernel
theorem d_Mod_over_56 : decode prog_10_method_36_code 56 = .ok (.getfield 81, 3) := by decide +kernel
theorem d_Mod_over_59 : decode prog_10_method_36_code 59 = .ok (.bipush 10, 2) := by decide +kernel
theorem d_Mod_over_61 : decode prog_10_method_36_code 61 = .ok (.iload_n 2, 1) := by decide +kernel
theorem d_Mod_over_62 : decode prog_10_method_36_code 62 = .ok (.imul, 1) := by decide +kernel
theorem d_Mod_over_63 : decode prog_10_method_36_code 63 = .ok (.iload 4, 2) := by decide +kernel
theorem d_Mod_over_65 : decode prog_10_method_36_code 65 = .ok (.iadd, 1) := by decide +kernel
theorem d_Mod_over_66 : decode prog_10_method_36_code 66 = .ok (.iaload, 1) := by decide +kernel
theorem d_Mod_over_67 : decode prog_10_method_36_code 67 = .ok (.invokestatic 215, 3) := by decide +kernel
theorem d_Mod_over_70 : decode prog_10_method_36_code 70 = .ok (.istore_n 3, 1) := by decide +kernel
theorem d_Mod_over_71 : decode prog_10_method_36_code 71 = .ok (.iinc 4 1, 3) := by decide +kernel
theorem d_Mod_over_74 : decode prog_10_method_36_code 74 = .ok (.goto (-60), 3) := by decide +kernel
theorem d_Mod_over_77 : decode prog_10_method_36_code 77 = .ok (.iload_n 3, 1) := by decide +kernel
theorem d_Mod_over_78 : decode prog_10_method_36_code 78 = .ok (.ireturn, 1) := by decide +kernel
def m_over_B : Nat → Nat → Int32 → Int32 → Int32 → Int32 → MS → Option (Int32 × MS)
  | 0, _, _, _, _, _, _ => none
  | n + 1, _, x1, x2, x3, x4, μ => (if 10 ≤ x4 then some (x3, μ) else (m_isThere x4 μ).bind (fun p24 => (if p24.1 = 0 then m_over_B n 0 x1 x2 x3 (x4 + 1) p24.2 else (if x1 = 3 then (if inb ((10 * x2) + x4) 400 = true then (m_and x3 ((p24.2.2.1 33) ((10 * x2) + x4).toNatClampNeg)).bind (fun p48 => m_over_B n 0 x1 x2 p48 (x4 + 1) p24.2) else none) else (if inb ((10 * x2) + x4) 400 = true then (m_or2 x3 ((p24.2.2.1 33) ((10 * x2) + x4).toNatClampNeg)).bind (fun p67 => m_over_B n 0 x1 x2 p67 (x4 + 1) p24.2) else none)))))
def m_over (x1 x2 : Int32) (μ : MS) : Option (Int32 × MS) := (if x1 = 3 then m_over_B 4096 0 x1 x2 1 1 μ else m_over_B 4096 0 x1 x2 0 1 μ)
set_option maxHeartbeats 4000000 in
set_option maxRecDepth 100000 in
theorem c_Mod_over {A : Nat → Nat} {f0 : Nat → va_E} {μ : MS} {x1 x2 : Int32} {res : (Int32 × MS)} (hM : zMf ck b0 N A f0 f μ) (h : m_over x1 x2 μ = some res) : zK l D ck ad b0 y_Mod_over prog_10_method_36_code 5 ((some FieldType.int)) 2 0 0 [.ref (A 38), .int x1, .int x2] N f (fun r N' f' => r = some (.int res.1) ∧ N = N' ∧ zMf ck b0 N A f0 f' res.2) := by
  refine zM.of zG_w (by decide) (Nat.le_of_ble_eq_true rfl) ?_
  intro zp ze zst zm zar zbe zme zc X hnm hb0
  have L : ∀ n : Nat, (∀ (x1 : Int32) (x2 : Int32) (x3 : Int32) (x4 : Int32) (f1 : Nat → va_E) (μ : MS), zMf ck b0 N A f0 f1 μ → m_over_B n 0 x1 x2 x3 x4 μ = some res → zW zp l ze (zR 2 0 0) zst zm zar zbe zme zc D zcl b0 5 0 0 (MQ zbe (zQ D zcl b0 (fun r N' f' => r = some (.int res.1) ∧ N = N' ∧ zMf ck b0 N A f0 f' res.2)) zar zst 0 0 (zA b0)) N f1 14 [(0, .ref (A 38)), (1, .int x1), (2, .int x2), (3, .int x3), (4, .int x4)] []) := by
    intro n
    induction n with
    | zero =>
      exact fun _ _ _ _ _ _ _ h => (by rw [m_over_B] at h; cases h)
    | succ n ih =>
      · intro x1 x2 x3 x4 f1 μ hM h
        rw [m_over_B] at h
        refine z_iload X d_Mod_over_14 rfl ?_
        refine z_bipush X d_Mod_over_16 (v := 10) (by decide) ?_
        refine z_icmp_ge X 77 d_Mod_over_18 (by decide) (fun h18 => ?_) (fun h18 => ?_)
        · skip
          have h := (if_pos h18).symm.trans h
          refine z_iload_n X d_Mod_over_77 rfl ?_
          have e9 := Option.some.inj h
          subst e9
          exact z_iret X d_Mod_over_78 ⟨rfl, rfl, hM⟩
        · skip
          have h := (if_neg h18).symm.trans h
          refine z_aload_n X d_Mod_over_21 rfl ?_
          refine z_iload X d_Mod_over_22 rfl ?_
          obtain ⟨p24, q24, h⟩ := bd h
          refine z_callV X zG_ok (c_Mod_isThere hM q24) d_Mod_over_24 ⟨(z_cb (n := 1) X.2.2.2.2.1 ml_Mod_212 mc_Mod_isThere ini_Mod (by decide +kernel) rfl rfl ⟨Nat.le_of_ble_eq_true rfl, Nat.le_of_ble_eq_true rfl⟩), X.2.2.2.2.1 _ im_Mod_isThere, X.2.2.2.2.1 _ sel_Mod_isThere⟩ (hM.lo 38 (by decide)) hM.ob cl_Mod rfl rfl (Nat.le_of_ble_eq_true rfl) ⟨Nat.le_of_ble_eq_true rfl, Nat.le_of_ble_eq_true rfl⟩ (fun r N1 f1 hp hN1 => ?_)
          obtain ⟨rfl, rfl, hM⟩ := hp
          refine z_if_eq X 71 d_Mod_over_27 (by decide) (fun h27 => ?_) (fun h27 => ?_)
          · skip
            have h := (if_pos h27).symm.trans h
            refine z_iinc X d_Mod_over_71 rfl (iic 1 1 (by decide) _) (by decide) rfl ?_
            refine z_goto X 14 d_Mod_over_74 (by decide) ?_
            refine zW.pick [0, 1, 2, 3, 4] (lv' := [(0, .ref (A 38)), (1, .int x1), (2, .int x2), (3, .int x3), (4, .int (x4 + 1))]) rfl ?_
            exact (ih) x1 x2 x3 (x4 + 1) _ _ hM h
          · skip
            have h := (if_neg h27).symm.trans h
            refine z_iload_n X d_Mod_over_30 rfl ?_
            refine z_iconst X d_Mod_over_31 (v := 3) (by decide) ?_
            refine z_icmp_ne X 54 d_Mod_over_32 (by decide) (fun h32 => ?_) (fun h32 => ?_)
            · skip
              have h := (if_neg h32).symm.trans h
              refine z_iload_n X d_Mod_over_54 rfl ?_
              refine z_aload_n X d_Mod_over_55 rfl ?_
              refine z_get X (v := .ref (A 33)) d_Mod_over_56 (hM.lo 38 (by decide)) hM.ob cl_Mod in_Mod 33 (by decide) fl_Mod_81 rfl rfl ?_
              refine z_bipush X d_Mod_over_59 (v := 10) (by decide) ?_
              refine z_iload_n X d_Mod_over_61 rfl ?_
              refine z_imul X d_Mod_over_62 ?_
              refine z_iload X d_Mod_over_63 rfl ?_
              refine z_iadd X d_Mod_over_65 ?_
              obtain ⟨b66, h⟩ := gd h
              refine z_iald X (g := (p24.2.2.1 33)) d_Mod_over_66 (hM.lo 33 (by decide)) (hM.iA 33 400 rfl) (t0 := 0) rfl (vp_of b66) ?_
              obtain ⟨p67, q67, h⟩ := bd h
              refine z_callS X zG_ok (c_Mod_or2 q67) d_Mod_over_67 ⟨(z_cb (n := 2) X.2.2.2.2.1 ml_Mod_215 mc_Mod_or2 ini_Mod (by decide +kernel) rfl rfl ⟨Nat.le_of_ble_eq_true rfl, Nat.le_of_ble_eq_true rfl⟩), X.2.2.2.2.1 _ st_Mod_or2⟩ rfl rfl (Nat.le_of_ble_eq_true rfl) ⟨Nat.le_of_ble_eq_true rfl, Nat.le_of_ble_eq_true rfl⟩ (fun r N1 f1 hp hN1 => ?_)
              obtain ⟨rfl, rfl, rfl⟩ := hp
              refine z_istore_n X d_Mod_over_70 (by decide) rfl ?_
              refine z_iinc X d_Mod_over_71 rfl (iic 1 1 (by decide) _) (by decide) rfl ?_
              refine z_goto X 14 d_Mod_over_74 (by decide) ?_
              refine zW.pick [0, 1, 2, 3, 4] (lv' := [(0, .ref (A 38)), (1, .int x1), (2, .int x2), (3, .int p67), (4, .int (x4 + 1))]) rfl ?_
              exact (ih) x1 x2 p67 (x4 + 1) _ _ hM h
            · skip
              have h := (if_pos h32).symm.trans h
              refine z_iload_n X d_Mod_over_35 rfl ?_
              refine z_aload_n X d_Mod_over_36 rfl ?_
              refine z_get X (v := .ref (A 33)) d_Mod_over_37 (hM.lo 38 (by decide)) hM.ob cl_Mod in_Mod 33 (by decide) fl_Mod_81 rfl rfl ?_
              refine z_bipush X d_Mod_over_40 (v := 10) (by decide) ?_
              refine z_iload_n X d_Mod_over_42 rfl ?_
              refine z_imul X d_Mod_over_43 ?_
              refine z_iload X d_Mod_over_44 rfl ?_
              refine z_iadd X d_Mod_over_46 ?_
              obtain ⟨b47, h⟩ := gd h
              refine z_iald X (g := (p24.2.2.1 33)) d_Mod_over_47 (hM.lo 33 (by decide)) (hM.iA 33 400 rfl) (t0 := 0) rfl (vp_of b47) ?_
              obtain ⟨p48, q48, h⟩ := bd h
              refine z_callS X zG_ok (c_Mod_and q48) d_Mod_over_48 ⟨(z_cb (n := 2) X.2.2.2.2.1 ml_Mod_209 mc_Mod_and ini_Mod (by decide +kernel) rfl rfl ⟨Nat.le_of_ble_eq_true rfl, Nat.le_of_ble_eq_true rfl⟩), X.2.2.2.2.1 _ st_Mod_and⟩ rfl rfl (Nat.le_of_ble_eq_true rfl) ⟨Nat.le_of_ble_eq_true rfl, Nat.le_of_ble_eq_true rfl⟩ (fun r N1 f1 hp hN1 => ?_)
              obtain ⟨rfl, rfl, rfl⟩ := hp
              refine z_goto X 70 d_Mod_over_51 (by decide) ?_
              refine z_istore_n X d_Mod_over_70 (by decide) rfl ?_
              refine z_iinc X d_Mod_over_71 rfl (iic 1 1 (by decide) _) (by decide) rfl ?_
              refine z_goto X 14 d_Mod_over_74 (by decide) ?_
              refine zW.pick [0, 1, 2, 3, 4] (lv' := [(0, .ref (A 38)), (1, .int x1), (2, .int x2), (3, .int p48), (4, .int (x4 + 1))]) rfl ?_
              exact (ih) x1 x2 p48 (x4 + 1) _ _ hM h
  rw [m_over] at h
  refine z_iload_n X d_Mod_over_0 rfl ?_
  refine z_iconst X d_Mod_over_1 (v := 3) (by decide) ?_
  refine z_icmp_ne X 9 d_Mod_over_2 (by decide) (fun h2 => ?_) (fun h2 => ?_)
  · skip
    have h := (if_neg h2).symm.trans h
    refine z_iconst X d_Mod_over_9 (v := 0) (by decide) ?_
    refine z_istore_n X d_Mod_over_10 (by decide) rfl ?_
    refine z_iconst X d_Mod_over_11 (v := 1) (by decide) ?_
    refine z_istore X d_Mod_over_12 (by decide) rfl ?_
    refine zW.pick [0, 1, 2, 3, 4] (lv' := [(0, .ref (A 38)), (1, .int x1), (2, .int x2), (3, .int 0), (4, .int 1)]) rfl ?_
    exact (L 4096) x1 x2 0 1 _ _ hM h
  · skip
    have h := (if_pos h2).symm.trans h
    refine z_iconst X d_Mod_over_5 (v := 1) (by decide) ?_
    refine z_goto X 10 d_Mod_over_6 (by decide) ?_
    refine z_istore_n X d_Mod_over_10 (by decide) rfl ?_
    refine z_iconst X d_Mod_over_11 (v := 1) (by decide) ?_
    refine z_istore X d_Mod_over_12 (by decide) rfl ?_
    refine zW.pick [0, 1, 2, 3, 4] (lv' := [(0, .ref (A 38)), (1, .int x1), (2, .int x2), (3, .int 1), (4, .int 1)]) rfl ?_
    exact (L 4096) x1 x2 1 1 _ _ hM h
theorem d_Mod_workNode_0 : decode prog_10_method_37_code 0 = .ok (.bipush 10, 2) := by decide +kernel
theorem d_Mod_workNode_2 : decode prog_10_method_37_code 2 = .ok (.iload_n 2, 1) := by decide +kernel
theorem d_Mod_workNode_3 : decode prog_10_method_37_code 3 = .ok (.imul, 1) := by decide +kernel
theorem d_Mod_workNode_4 : decode prog_10_method_37_code 4 = .ok (.iload_n 3, 1) := by decide +kernel
theorem d_Mod_workNode_5 : decode prog_10_method_37_code 5 = .ok (.iadd, 1) := by decide +kernel
theorem d_Mod_workNode_6 : decode prog_10_method_37_code 6 = .ok (.istore 4, 2) := by decide +kernel
theorem d_Mod_workNode_8 : decode prog_10_method_37_code 8 = .ok (.bipush 10, 2) := by decide +kernel
theorem d_Mod_workNode_10 : decode prog_10_method_37_code 10 = .ok (.aload_n 0, 1) := by decide +kernel
theorem d_Mod_workNode_11 : decode prog_10_method_37_code 11 = .ok (.getfield 19, 3) := by decide +kernel
theorem d_Mod_workNode_14 : decode prog_10_method_37_code 14 = .ok (.iload_n 1, 1) := by decide +kernel
theorem d_Mod_workNode_15 : decode prog_10_method_37_code 15 = .ok (.iaload, 1) := by decide +kernel
theorem d_Mod_workNode_16 : decode prog_10_method_37_code 16 = .ok (.imul, 1) := by decide +kernel
theorem d_Mod_workNode_17 : decode prog_10_method_37_code 17 = .ok (.iload_n 3, 1) := by decide +kernel
theorem d_Mod_workNode_18 : decode prog_10_method_37_code 18 = .ok (.iadd, 1) := by decide +kernel
theorem d_Mod_workNode_19 : decode prog_10_method_37_code 19 = .ok (.istore 5, 2) := by decide +kernel
theorem d_Mod_workNode_21 : decode prog_10_method_37_code 21 = .ok (.bipush 10, 2) := by decide +kernel
theorem d_Mod_workNode_23 : decode prog_10_method_37_code 23 = .ok (.aload_n 0, 1) := by decide +kernel
theorem d_Mod_workNode_24 : decode prog_10_method_37_code 24 = .ok (.getfield 22, 3) := by decide +kernel
theorem d_Mod_workNode_27 : decode prog_10_method_37_code 27 = .ok (.iload_n 1, 1) := by decide +kernel
theorem d_Mod_workNode_28 : decode prog_10_method_37_code 28 = .ok (.iaload, 1) := by decide +kernel
theorem d_Mod_workNode_29 : decode prog_10_method_37_code 29 = .ok (.imul, 1) := by decide +kernel
theorem d_Mod_workNode_30 : decode prog_10_method_37_code 30 = .ok (.iload_n 3, 1) := by decide +kernel
theorem d_Mod_workNode_31 : decode prog_10_method_37_code 31 = .ok (.iadd, 1) := by decide +kernel
theorem d_Mod_workNode_32 : decode prog_10_method_37_code 32 = .ok (.istore 6, 2) := by decide +kernel
theorem d_Mod_workNode_34 : decode prog_10_method_37_code 34 = .ok (.aload_n 0, 1) := by decide +kernel
theorem d_Mod_workNode_35 : decode prog_10_method_37_code 35 = .ok (.getfield 13, 3) := by decide +kernel
theorem d_Mod_workNode_38 : decode prog_10_method_37_code 38 = .ok (.iload_n 1, 1) := by decide +kernel
theorem d_Mod_workNode_39 : decode prog_10_method_37_code 39 = .ok (.iaload, 1) := by decide +kernel
theorem d_Mod_workNode_40 : decode prog_10_method_37_code 40 = .ok (.istore 7, 2) := by decide +kernel
theorem d_Mod_workNode_42 : decode prog_10_method_37_code 42 = .ok (.iload 7, 2) := by decide +kernel
theorem d_Mod_workNode_44 : decode prog_10_method_37_code 44 = .ok (.bipush 10, 2) := by decide +kernel
theorem d_Mod_workNode_46 : decode prog_10_method_37_code 46 = .ok (.if_icmp .le 13, 3) := by decide +kernel
theorem d_Mod_workNode_49 : decode prog_10_method_37_code 49 = .ok (.aload_n 0, 1) := by decide +kernel
theorem d_Mod_workNode_50 : decode prog_10_method_37_code 50 = .ok (.iload_n 1, 1) := by decide +kernel
theorem d_Mod_workNode_51 : decode prog_10_method_37_code 51 = .ok (.iload_n 2, 1) := by decide +kernel
theorem d_Mod_workNode_52 : decode prog_10_method_37_code 52 = .ok (.iload_n 3, 1) := by decide +kernel
theorem d_Mod_workNode_53 : decode prog_10_method_37_code 53 = .ok (.invokevirtual 217, 3) := by decide +kernel
theorem d_Mod_workNode_56 : decode prog_10_method_37_code 56 = .ok (.goto 215, 3) := by decide +kernel
theorem d_Mod_workNode_59 : decode prog_10_method_37_code 59 = .ok (.iload 7, 2) := by decide +kernel
theorem d_Mod_workNode_61 : decode prog_10_method_37_code 61 = .ok (.bipush 8, 2) := by decide +kernel
theorem d_Mod_workNode_63 : decode prog_10_method_37_code 63 = .ok (.if_icmp .le 85, 3) := by decide +kernel
theorem d_Mod_workNode_66 : decode prog_10_method_37_code 66 = .ok (.aload_n 0, 1) := by decide +kernel
theorem d_Mod_workNode_67 : decode prog_10_method_37_code 67 = .ok (.getfield 78, 3) := by decide +kernel
theorem d_Mod_workNode_70 : decode prog_10_method_37_code 70 = .ok (.iload 4, 2) := by decide +kernel
theorem d_Mod_workNode_72 : decode prog_10_method_37_code 72 = .ok (.aload_n 0, 1) := by decide +kernel
theorem d_Mod_workNode_73 : decode prog_10_method_37_code 73 = .ok (.getfield 78, 3) := by decide +kernel
theorem d_Mod_workNode_76 : decode prog_10_method_37_code 76 = .ok (.iload 5, 2) := by decide +kernel
theorem d_Mod_workNode_78 : decode prog_10_method_37_code 78 = .ok (.baload, 1) := by decide +kernel
theorem d_Mod_workNode_79 : decode prog_10_method_37_code 79 = .ok (.ifCond .eq 17, 3) := by decide +kernel
theorem d_Mod_workNode_82 : decode prog_10_method_37_code 82 = .ok (.aload_n 0, 1) := by decide +kernel
theorem d_Mod_workNode_83 : decode prog_10_method_37_code 83 = .ok (.getfield 78, 3) := by decide +kernel
theorem d_Mod_workNode_86 : decode prog_10_method_37_code 86 = .ok (.iload 6, 2) := by decide +kernel
theorem d_Mod_workNode_88 : decode prog_10_method_37_code 88 = .ok (.baload, 1) := by decide +kernel
theorem d_Mod_workNode_89 : decode prog_10_method_37_code 89 = .ok (.ifCond .eq 7, 3) := by decide +kernel
theorem d_Mod_workNode_92 : decode prog_10_method_37_code 92 = .ok (.iconst 1, 1) := by decide +kernel
theorem d_Mod_workNode_93 : decode prog_10_method_37_code 93 = .ok (.goto 4, 3) := by decide +kernel
theorem d_Mod_workNode_96 : decode prog_10_method_37_code 96 = .ok (.iconst 0, 1) := by decide +kernel
theorem d_Mod_workNode_97 : decode prog_10_method_37_code 97 = .ok (.bastore, 1) := by decide +kernel
theorem d_Mod_workNode_98 : decode prog_10_method_37_code 98 = .ok (.aload_n 0, 1) := by decide +kernel
theorem d_Mod_workNode_99 : decode prog_10_method_37_code 99 = .ok (.getfield 74, 3) := by decide +kernel
theorem d_Mod_workNode_102 : decode prog_10_method_37_code 102 = .ok (.iload 4, 2) := by decide +kernel
theorem d_Mod_workNode_104 : decode prog_10_method_37_code 104 = .ok (.iload 7, 2) := by decide +kernel
theorem d_Mod_workNode_106 : decode prog_10_method_37_code 106 = .ok (.bipush 9, 2) := by decide +kernel
theorem d_Mod_workNode_108 : decode prog_10_method_37_code 108 = .ok (.if_icmp .ne 21, 3) := by decide +kernel
theorem d_Mod_workNode_111 : decode prog_10_method_37_code 111 = .ok (.aload_n 0, 1) := by decide +kernel
theorem d_Mod_workNode_112 : decode prog_10_method_37_code 112 = .ok (.getfield 74, 3) := by decide +kernel
theorem d_Mod_workNode_115 : decode prog_10_method_37_code 115 = .ok (.iload 5, 2) := by decide +kernel
theorem d_Mod_workNode_117 : decode prog_10_method_37_code 117 = .ok (.laload, 1) := by decide +kernel
theorem d_Mod_workNode_118 : decode prog_10_method_37_code 118 = .ok (.aload_n 0, 1) := by decide +kernel
theorem d_Mod_workNode_119 : decode prog_10_method_37_code 119 = .ok (.getfield 74, 3) := by decide +kernel
theorem d_Mod_workNode_122 : decode prog_10_method_37_code 122 = .ok (.iload 6, 2) := by decide +kernel
theorem d_Mod_workNode_124 : decode prog_10_method_37_code 124 = .ok (.laload, 1) := by decide +kernel
theorem d_Mod_workNode_125 : decode prog_10_method_37_code 125 = .ok (.ladd, 1) := by decide +kernel
theorem d_Mod_workNode_126 : decode prog_10_method_37_code 126 = .ok (.goto 18, 3) := by decide +kernel
theorem d_Mod_workNode_129 : decode prog_10_method_37_code 129 = .ok (.aload_n 0, 1) := by decide +kernel
theorem d_Mod_workNode_130 : decode prog_10_method_37_code 130 = .ok (.getfield 74, 3) := by decide +kernel
theorem d_Mod_workNode_133 : decode prog_10_method_37_code 133 = .ok (.iload 5, 2) := by decide +kernel
theorem d_Mod_workNode_135 : decode prog_10_method_37_code 135 = .ok (.laload, 1) := by decide +kernel
theorem d_Mod_workNode_136 : decode prog_10_method_37_code 136 = .ok (.aload_n 0, 1) := by decide +kernel
theorem d_Mod_workNode_137 : decode prog_10_method_37_code 137 = .ok (.getfield 74, 3) := by decide +kernel
theorem d_Mod_workNode_140 : decode prog_10_method_37_code 140 = .ok (.iload 6, 2) := by decide +kernel
theorem d_Mod_workNode_142 : decode prog_10_method_37_code 142 = .ok (.laload, 1) := by decide +kernel
theorem d_Mod_workNode_143 : decode prog_10_method_37_code 143 = .ok (.lsub, 1) := by decide +kernel
theorem d_Mod_workNode_144 : decode prog_10_method_37_code 144 = .ok (.lastore, 1) := by decide +kernel
theorem d_Mod_workNode_145 : decode prog_10_method_37_code 145 = .ok (.goto 126, 3) := by decide +kernel
theorem d_Mod_workNode_148 : decode prog_10_method_37_code 148 = .ok (.iload 7, 2) := by decide +kernel
theorem d_Mod_workNode_150 : decode prog_10_method_37_code 150 = .ok (.iconst 4, 1) := by decide +kernel
theorem d_Mod_workNode_151 : decode prog_10_method_37_code 151 = .ok (.if_icmp .le 23, 3) := by decide +kernel
theorem d_Mod_workNode_154 : decode prog_10_method_37_code 154 = .ok (.aload_n 0, 1) := by decide +kernel
theorem d_Mod_workNode_155 : decode prog_10_method_37_code 155 = .ok (.getfield 81, 3) := by decide +kernel
theorem d_Mod_workNode_158 : decode prog_10_method_37_code 158 = .ok (.iload 4, 2) := by decide +kernel
theorem d_Mod_workNode_160 : decode prog_10_method_37_code 160 = .ok (.aload_n 0, 1) := by decide +kernel
theorem d_Mod_workNode_161 : decode prog_10_method_37_code 161 = .ok (.iload 7, 2) := by decide +kernel
theorem d_Mod_workNode_163 : decode prog_10_method_37_code 163 = .ok (.iload 5, 2) := by decide +kernel
theorem d_Mod_workNode_165 : decode prog_10_method_37_code 165 = .ok (.iload 6, 2) := by decide +kernel
theorem d_Mod_workNode_167 : decode prog_10_method_37_code 167 = .ok (.invokevirtual 221, 3) := by decide +kernel
theorem d_Mod_workNode_170 : decode prog_10_method_37_code 170 = .ok (.iastore, 1) := by decide +kernel
theorem d_Mod_workNode_171 : decode prog_10_method_37_code 171 = .ok (.goto 100, 3) := by decide +kernel
theorem d_Mod_workNode_174 : decode prog_10_method_37_code 174 = .ok (.iload 7, 2) := by decide +kernel
theorem d_Mod_workNode_176 : decode prog_10_method_37_code 176 = .ok (.iconst 2, 1) := by decide +kernel
theorem d_Mod_workNode_177 : decode prog_10_method_37_code 177 = .ok (.if_icmp .le 25, 3) := by decide +kernel
theorem d_Mod_workNode_180 : decode prog_10_method_37_code 180 = .ok (.aload_n 0, 1) := by decide +kernel
theorem d_Mod_workNode_181 : decode prog_10_method_37_code 181 = .ok (.getfield 81, 3) := by decide +kernel
theorem d_Mod_workNode_184 : decode prog_10_method_37_code 184 = .ok (.iload 4, 2) := by decide +kernel
theorem d_Mod_workNode_186 : decode prog_10_method_37_code 186 = .ok (.aload_n 0, 1) := by decide +kernel
theorem d_Mod_workNode_187 : decode prog_10_method_37_code 187 = .ok (.iload 7, 2) := by decide +kernel
theorem d_Mod_workNode_189 : decode prog_10_method_37_code 189 = .ok (.aload_n 0, 1) := by decide +kernel
theorem d_Mod_workNode_190 : decode prog_10_method_37_code 190 = .ok (.getfield 19, 3) := by decide +kernel
theorem d_Mod_workNode_193 : decode prog_10_method_37_code 193 = .ok (.iload_n 1, 1) := by decide +kernel
theorem d_Mod_workNode_194 : decode prog_10_method_37_code 194 = .ok (.iaload, 1) := by decide +kernel
theorem d_Mod_workNode_195 : decode prog_10_method_37_code 195 = .ok (.invokevirtual 225, 3) := by decide +kernel
theorem d_Mod_workNode_198 : decode prog_10_method_37_code 198 = .ok (.iastore, 1) := by decide +kernel
theorem d_Mod_workNode_199 : decode prog_10_method_37_code 199 = .ok (.goto 72, 3) := by decide +kernel
theorem d_Mod_workNode_202 : decode prog_10_method_37_code 202 = .ok (.aload_n 0, 1) := by decide +kernel
theorem d_Mod_workNode_203 : decode prog_10_method_37_code 203 = .ok (.getfield 81, 3) := by decide +kernel
theorem d_Mod_workNode_206 : decode prog_10_method_37_code 206 = .ok (.iload 4, 2) := by decide +kernel
theorem d_Mod_workNode_208 : decode prog_10_method_37_code 208 = .ok (.iload 7, 2) := by decide +kernel
theorem d_Mod_workNode_210 : decode prog_10_method_37_code 210 = .ok (.iconst 2, 1) := by decide +kernel
theorem d_Mod_workNode_211 : decode prog_10_method_37_code 211 = .ok (.if_icmp .ne 16, 3) := by decide +kernel
theorem d_Mod_workNode_214 : decode prog_10_method_37_code 214 = .ok (.aload_n 0, 1) := by decide +kernel
theorem d_Mod_workNode_215 : decode prog_10_method_37_code 215 = .ok (.getfield 81, 3) := by decide +kernel
theorem d_Mod_workNode_218 : decode prog_10_method_37_code 218 = .ok (.iload 5, 2) := by decide +kernel
theorem d_Mod_workNode_220 : decode prog_10_method_37_code 220 = .ok (.iaload, 1) := by decide +kernel
theorem d_Mod_workNode_221 : decode prog_10_method_37_code 221 = .ok (.invokestatic 206, 3) := by decide +kernel
theorem d_Mod_workNode_224 : decode prog_10_method_37_code 224 = .ok (.goto 46, 3) := by decide +kernel
theorem d_Mod_workNode_227 : decode prog_10_method_37_code 227 = .ok (.iload 7, 2) := by decide +kernel
theorem d_Mod_workNode_229 : decode prog_10_method_37_code 229 = .ok (.iconst 1, 1) := by decide +kernel
theorem d_Mod_workNode_230 : decode prog_10_method_37_code 230 = .ok (.if_icmp .ne 23, 3) := by decide +kernel
theorem d_Mod_workNode_233 : decode prog_10_method_37_code 233 = .ok (.aload_n 0, 1) := by decide +kernel
theorem d_Mod_workNode_234 : decode prog_10_method_37_code 234 = .ok (.getfield 81, 3) := by decide +kernel
theorem d_Mod_workNode_237 : decode prog_10_method_37_code 237 = .ok (.iload 5, 2) := by decide +kernel
theorem d_Mod_workNode_239 : decode prog_10_method_37_code 239 = .ok (.iaload, 1) := by decide +kernel
theorem d_Mod_workNode_240 : decode prog_10_method_37_code 240 = .ok (.aload_n 0, 1) := by decide +kernel
theorem d_Mod_workNode_241 : decode prog_10_method_37_code 241 = .ok (.getfield 81, 3) := by decide +kernel
theorem d_Mod_workNode_244 : decode prog_10_method_37_code 244 = .ok (.iload 6, 2) := by decide +kernel
theorem d_Mod_workNode_246 : decode prog_10_method_37_code 246 = .ok (.iaload, 1) := by decide +kernel
theorem d_Mod_workNode_247 : decode prog_10_method_37_code 247 = .ok (.invokestatic 209, 3) := by decide +kernel
theorem d_Mod_workNode_250 : decode prog_10_method_37_code 250 = .ok (.goto 20, 3) := by decide +kernel
theorem d_Mod_workNode_253 : decode prog_10_method_37_code 253 = .ok (.aload_n 0, 1) := by decide +kernel
theorem d_Mod_workNode_254 : decode prog_10_method_37_code 254 = .ok (.getfield 81, 3) := by decide +kernel
theorem d_Mod_workNode_257 : decode prog_10_method_37_code 257 = .ok (.iload 5, 2) := by decide +kernel
theorem d_Mod_workNode_259 : decode prog_10_method_37_code 259 = .ok (.iaload, 1) := by decide +kernel
theorem d_Mod_workNode_260 : decode prog_10_method_37_code 260 = .ok (.aload_n 0, 1) := by decide +kernel
theorem d_Mod_workNode_261 : decode prog_10_method_37_code 261 = .ok (.getfield 81, 3) := by decide +kernel
theorem d_Mod_workNode_264 : decode prog_10_method_37_code 264 = .ok (.iload 6, 2) := by decide +kernel
theorem d_Mod_workNode_266 : decode prog_10_method_37_code 266 = .ok (.iaload, 1) := by decide +kernel
theorem d_Mod_workNode_267 : decode prog_10_method_37_code 267 = .ok (.invokestatic 215, 3) := by decide +kernel
theorem d_Mod_workNode_270 : decode prog_10_method_37_code 270 = .ok (.iastore, 1) := by decide +kernel
theorem d_Mod_workNode_271 : decode prog_10_method_37_code 271 = .ok (.return_, 1) := by decide +kernel
def m_workNode_B : Nat → Nat → MS → Option MS
  | 0, _, _ => none
  | n + 1, _, μ => some μ
def m_workNode (x1 x2 x3 : Int32) (μ : MS) : Option MS := (if inb x1 800 = true then (if ((μ.2.1 6) x1.toNatClampNeg) ≤ 10 then (if ((μ.2.1 6) x1.toNatClampNeg) ≤ 8 then (if ((μ.2.1 6) x1.toNatClampNeg) ≤ 4 then (if ((μ.2.1 6) x1.toNatClampNeg) ≤ 2 then (if ((μ.2.1 6) x1.toNatClampNeg) = 2 then (if inb ((10 * ((μ.2.1 8) x1.toNatClampNeg)) + x3) 400 = true then (m_not ((μ.2.1 33) ((10 * ((μ.2.1 8) x1.toNatClampNeg)) + x3).toNatClampNeg)).bind (fun p221 => (if inb ((10 * x2) + x3) 400 = true then m_workNode_B 4096 0 (sA 33 (((10 * x2) + x3).toNatClampNeg) p221 μ) else none)) else none) else (if ((μ.2.1 6) x1.toNatClampNeg) = 1 then (if inb ((10 * ((μ.2.1 8) x1.toNatClampNeg)) + x3) 400 = true then (if inb ((10 * ((μ.2.1 9) x1.toNatClampNeg)) + x3) 400 = true then (m_and ((μ.2.1 33) ((10 * ((μ.2.1 8) x1.toNatClampNeg)) + x3).toNatClampNeg) ((μ.2.1 33) ((10 * ((μ.2.1 9) x1.toNatClampNeg)) + x3).toNatClampNeg)).bind (fun p247 => (if inb ((10 * x2) + x3) 400 = true then m_workNode_B 4096 0 (sA 33 (((10 * x2) + x3).toNatClampNeg) p247 μ) else none)) else none) else none) else (if inb ((10 * ((μ.2.1 8) x1.toNatClampNeg)) + x3) 400 = true then (if inb ((10 * ((μ.2.1 9) x1.toNatClampNeg)) + x3) 400 = true then (m_or2 ((μ.2.1 33) ((10 * ((μ.2.1 8) x1.toNatClampNeg)) + x3).toNatClampNeg) ((μ.2.1 33) ((10 * ((μ.2.1 9) x1.toNatClampNeg)) + x3).toNatClampNeg)).bind (fun p267 => (if inb ((10 * x2) + x3) 400 = true then m_workNode_B 4096 0 (sA 33 (((10 * x2) + x3).toNatClampNeg) p267 μ) else none)) else none) else none))) else (m_over ((μ.2.1 6) x1.toNatClampNeg) ((μ.2.1 8) x1.toNatClampNeg) μ).bind (fun p195 => (if inb ((10 * x2) + x3) 400 = true then m_workNode_B 4096 0 (sA 33 (((10 * x2) + x3).toNatClampNeg) p195.1 p195.2) else none))) else (m_compared ((μ.2.1 6) x1.toNatClampNeg) ((10 * ((μ.2.1 8) x1.toNatClampNeg)) + x3) ((10 * ((μ.2.1 9) x1.toNatClampNeg)) + x3) μ).bind (fun p167 => (if inb ((10 * x2) + x3) 400 = true then m_workNode_B 4096 0 (sA 33 (((10 * x2) + x3).toNatClampNeg) p167.1 p167.2) else none))) else (if inb ((10 * ((μ.2.1 8) x1.toNatClampNeg)) + x3) 400 = true then (if ((μ.2.1 32) ((10 * ((μ.2.1 8) x1.toNatClampNeg)) + x3).toNatClampNeg) = 0 then (if inb ((10 * x2) + x3) 400 = true then (if ((μ.2.1 6) x1.toNatClampNeg) = 9 then (if inb ((10 * ((μ.2.1 9) x1.toNatClampNeg)) + x3) 400 = true then m_workNode_B 4096 0 (sJ (((10 * x2) + x3).toNatClampNeg) ((μ.2.2 ((10 * ((μ.2.1 8) x1.toNatClampNeg)) + x3).toNatClampNeg) + (μ.2.2 ((10 * ((μ.2.1 9) x1.toNatClampNeg)) + x3).toNatClampNeg)) (sA 32 (((10 * x2) + x3).toNatClampNeg) (vp_nar .boolean 0) μ)) else none) else (if inb ((10 * ((μ.2.1 9) x1.toNatClampNeg)) + x3) 400 = true then m_workNode_B 4096 0 (sJ (((10 * x2) + x3).toNatClampNeg) ((μ.2.2 ((10 * ((μ.2.1 8) x1.toNatClampNeg)) + x3).toNatClampNeg) - (μ.2.2 ((10 * ((μ.2.1 9) x1.toNatClampNeg)) + x3).toNatClampNeg)) (sA 32 (((10 * x2) + x3).toNatClampNeg) (vp_nar .boolean 0) μ)) else none)) else none) else (if inb ((10 * ((μ.2.1 9) x1.toNatClampNeg)) + x3) 400 = true then (if ((μ.2.1 32) ((10 * ((μ.2.1 9) x1.toNatClampNeg)) + x3).toNatClampNeg) = 0 then (if inb ((10 * x2) + x3) 400 = true then (if ((μ.2.1 6) x1.toNatClampNeg) = 9 then m_workNode_B 4096 0 (sJ (((10 * x2) + x3).toNatClampNeg) ((μ.2.2 ((10 * ((μ.2.1 8) x1.toNatClampNeg)) + x3).toNatClampNeg) + (μ.2.2 ((10 * ((μ.2.1 9) x1.toNatClampNeg)) + x3).toNatClampNeg)) (sA 32 (((10 * x2) + x3).toNatClampNeg) (vp_nar .boolean 0) μ)) else m_workNode_B 4096 0 (sJ (((10 * x2) + x3).toNatClampNeg) ((μ.2.2 ((10 * ((μ.2.1 8) x1.toNatClampNeg)) + x3).toNatClampNeg) - (μ.2.2 ((10 * ((μ.2.1 9) x1.toNatClampNeg)) + x3).toNatClampNeg)) (sA 32 (((10 * x2) + x3).toNatClampNeg) (vp_nar .boolean 0) μ))) else none) else (if inb ((10 * x2) + x3) 400 = true then (if ((μ.2.1 6) x1.toNatClampNeg) = 9 then m_workNode_B 4096 0 (sJ (((10 * x2) + x3).toNatClampNeg) ((μ.2.2 ((10 * ((μ.2.1 8) x1.toNatClampNeg)) + x3).toNatClampNeg) + (μ.2.2 ((10 * ((μ.2.1 9) x1.toNatClampNeg)) + x3).toNatClampNeg)) (sA 32 (((10 * x2) + x3).toNatClampNeg) (vp_nar .boolean 1) μ)) else m_workNode_B 4096 0 (sJ (((10 * x2) + x3).toNatClampNeg) ((μ.2.2 ((10 * ((μ.2.1 8) x1.toNatClampNeg)) + x3).toNatClampNeg) - (μ.2.2 ((10 * ((μ.2.1 9) x1.toNatClampNeg)) + x3).toNatClampNeg)) (sA 32 (((10 * x2) + x3).toNatClampNeg) (vp_nar .boolean 1) μ))) else none)) else none)) else none)) else (m_workTerm x1 x2 x3 μ).bind (fun p53 => m_workNode_B 4096 0 p53)) else none)
set_option maxHeartbeats 4000000 in
set_option maxRecDepth 100000 in
theorem c_Mod_workNode {A : Nat → Nat} {f0 : Nat → va_E} {μ : MS} {x1 x2 x3 : Int32} {res : MS} (hM : zMf ck b0 N A f0 f μ) (h : m_workNode x1 x2 x3 μ = some res) : zK l D ck ad b0 y_Mod_workNode prog_10_method_37_code 8 (none) 3 0 0 [.ref (A 38), .int x1, .int x2, .int x3] N f (fun r N' f' => r = none ∧ N = N' ∧ zMf ck b0 N A f0 f' res) := by
  refine zM.of zG_w (by decide) (Nat.le_of_ble_eq_true rfl) ?_
  intro zp ze zst zm zar zbe zme zc X hnm hb0
  have L : ∀ n : Nat, (∀  (f1 : Nat → va_E) (μ : MS), zMf ck b0 N A f0 f1 μ → m_workNode_B n 0 μ = some res → zW zp l ze (zR 3 0 0) zst zm zar zbe zme zc D zcl b0 8 0 0 (MQ zbe (zQ D zcl b0 (fun r N' f' => r = none ∧ N = N' ∧ zMf ck b0 N A f0 f' res)) zar zst 0 0 (zA b0)) N f1 271 [(0, .ref (A 38))] []) := by
    intro n
    induction n with
    | zero =>
      exact fun  _ _ _ h => (by rw [m_workNode_B] at h; cases h)
    | succ n ih =>
      · intro  f1 μ hM h
        rw [m_workNode_B] at h
        have e9 := Option.some.inj h
        subst e9
        exact z_vret X d_Mod_workNode_271 ⟨rfl, rfl, hM⟩
  rw [m_workNode] at h
  refine z_bipush X d_Mod_workNode_0 (v := 10) (by decide) ?_
  refine z_iload_n X d_Mod_workNode_2 rfl ?_
  refine z_imul X d_Mod_workNode_3 ?_
  refine z_iload_n X d_Mod_workNode_4 rfl ?_
  refine z_iadd X d_Mod_workNode_5 ?_
  refine z_istore X d_Mod_workNode_6 (by decide) rfl ?_
  refine z_bipush X d_Mod_workNode_8 (v := 10) (by decide) ?_
  refine z_aload_n X d_Mod_workNode_10 rfl ?_
  refine z_get X (v := .ref (A 8)) d_Mod_workNode_11 (hM.lo 38 (by decide)) hM.ob cl_Mod in_Mod 8 (by decide) fl_Mod_19 rfl rfl ?_
  refine z_iload_n X d_Mod_workNode_14 rfl ?_
  obtain ⟨b15, h⟩ := gd h
  refine z_iald X (g := (μ.2.1 8)) d_Mod_workNode_15 (hM.lo 8 (by decide)) (hM.iA 8 800 rfl) (t0 := 0) rfl (vp_of b15) ?_
  refine z_imul X d_Mod_workNode_16 ?_
  refine z_iload_n X d_Mod_workNode_17 rfl ?_
  refine z_iadd X d_Mod_workNode_18 ?_
  refine z_istore X d_Mod_workNode_19 (by decide) rfl ?_
  refine z_bipush X d_Mod_workNode_21 (v := 10) (by decide) ?_
  refine z_aload_n X d_Mod_workNode_23 rfl ?_
  refine z_get X (v := .ref (A 9)) d_Mod_workNode_24 (hM.lo 38 (by decide)) hM.ob cl_Mod in_Mod 9 (by decide) fl_Mod_22 rfl rfl ?_
  refine z_iload_n X d_Mod_workNode_27 rfl ?_
  refine z_iald X (g := (μ.2.1 9)) d_Mod_workNode_28 (hM.lo 9 (by decide)) (hM.iA 9 800 rfl) (t0 := 0) rfl (vp_of b15) ?_
  refine z_imul X d_Mod_workNode_29 ?_
  refine z_iload_n X d_Mod_workNode_30 rfl ?_
  refine z_iadd X d_Mod_workNode_31 ?_
  refine z_istore X d_Mod_workNode_32 (by decide) rfl ?_
  refine z_aload_n X d_Mod_workNode_34 rfl ?_
  refine z_get X (v := .ref (A 6)) d_Mod_workNode_35 (hM.lo 38 (by decide)) hM.ob cl_Mod in_Mod 6 (by decide) fl_Mod_13 rfl rfl ?_
  refine z_iload_n X d_Mod_workNode_38 rfl ?_
  refine z_iald X (g := (μ.2.1 6)) d_Mod_workNode_39 (hM.lo 6 (by decide)) (hM.iA 6 800 rfl) (t0 := 0) rfl (vp_of b15) ?_
  refine z_istore X d_Mod_workNode_40 (by decide) rfl ?_
  refine z_iload X d_Mod_workNode_42 rfl ?_
  refine z_bipush X d_Mod_workNode_44 (v := 10) (by decide) ?_
  refine z_icmp_le X 59 d_Mod_workNode_46 (by decide) (fun h46 => ?_) (fun h46 => ?_)
  · skip
    have h := (if_pos h46).symm.trans h
    refine z_iload X d_Mod_workNode_59 rfl ?_
    refine z_bipush X d_Mod_workNode_61 (v := 8) (by decide) ?_
    refine z_icmp_le X 148 d_Mod_workNode_63 (by decide) (fun h63 => ?_) (fun h63 => ?_)
    · skip
      have h := (if_pos h63).symm.trans h
      refine z_iload X d_Mod_workNode_148 rfl ?_
      refine z_iconst X d_Mod_workNode_150 (v := 4) (by decide) ?_
      refine z_icmp_le X 174 d_Mod_workNode_151 (by decide) (fun h151 => ?_) (fun h151 => ?_)
      · skip
        have h := (if_pos h151).symm.trans h
        refine z_iload X d_Mod_workNode_174 rfl ?_
        refine z_iconst X d_Mod_workNode_176 (v := 2) (by decide) ?_
        refine z_icmp_le X 202 d_Mod_workNode_177 (by decide) (fun h177 => ?_) (fun h177 => ?_)
        · skip
          have h := (if_pos h177).symm.trans h
          refine z_aload_n X d_Mod_workNode_202 rfl ?_
          refine z_get X (v := .ref (A 33)) d_Mod_workNode_203 (hM.lo 38 (by decide)) hM.ob cl_Mod in_Mod 33 (by decide) fl_Mod_81 rfl rfl ?_
          refine z_iload X d_Mod_workNode_206 rfl ?_
          refine z_iload X d_Mod_workNode_208 rfl ?_
          refine z_iconst X d_Mod_workNode_210 (v := 2) (by decide) ?_
          refine z_icmp_ne X 227 d_Mod_workNode_211 (by decide) (fun h211 => ?_) (fun h211 => ?_)
          · skip
            have h := (if_neg h211).symm.trans h
            refine z_iload X d_Mod_workNode_227 rfl ?_
            refine z_iconst X d_Mod_workNode_229 (v := 1) (by decide) ?_
            refine z_icmp_ne X 253 d_Mod_workNode_230 (by decide) (fun h230 => ?_) (fun h230 => ?_)
            · skip
              have h := (if_neg h230).symm.trans h
              refine z_aload_n X d_Mod_workNode_253 rfl ?_
              refine z_get X (v := .ref (A 33)) d_Mod_workNode_254 (hM.lo 38 (by decide)) hM.ob cl_Mod in_Mod 33 (by decide) fl_Mod_81 rfl rfl ?_
              refine z_iload X d_Mod_workNode_257 rfl ?_
              obtain ⟨b259, h⟩ := gd h
              refine z_iald X (g := (μ.2.1 33)) d_Mod_workNode_259 (hM.lo 33 (by decide)) (hM.iA 33 400 rfl) (t0 := 0) rfl (vp_of b259) ?_
              refine z_aload_n X d_Mod_workNode_260 rfl ?_
              refine z_get X (v := .ref (A 33)) d_Mod_workNode_261 (hM.lo 38 (by decide)) hM.ob cl_Mod in_Mod 33 (by decide) fl_Mod_81 rfl rfl ?_
              refine z_iload X d_Mod_workNode_264 rfl ?_
              obtain ⟨b266, h⟩ := gd h
              refine z_iald X (g := (μ.2.1 33)) d_Mod_workNode_266 (hM.lo 33 (by decide)) (hM.iA 33 400 rfl) (t0 := 0) rfl (vp_of b266) ?_
              obtain ⟨p267, q267, h⟩ := bd h
              refine z_callS X zG_ok (c_Mod_or2 q267) d_Mod_workNode_267 ⟨(z_cb (n := 2) X.2.2.2.2.1 ml_Mod_215 mc_Mod_or2 ini_Mod (by decide +kernel) rfl rfl ⟨Nat.le_of_ble_eq_true rfl, Nat.le_of_ble_eq_true rfl⟩), X.2.2.2.2.1 _ st_Mod_or2⟩ rfl rfl (Nat.le_of_ble_eq_true rfl) ⟨Nat.le_of_ble_eq_true rfl, Nat.le_of_ble_eq_true rfl⟩ (fun r N1 f1 hp hN1 => ?_)
              obtain ⟨rfl, rfl, rfl⟩ := hp
              obtain ⟨b270, h⟩ := gd h
              refine z_iastM X d_Mod_workNode_270 hM 33 400 rfl rfl (vp_of b270) (fun hM => ?_)
              refine zW.pick [0] (lv' := [(0, .ref (A 38))]) rfl ?_
              exact (L 4096) _ _ hM h
            · skip
              have h := (if_pos h230).symm.trans h
              refine z_aload_n X d_Mod_workNode_233 rfl ?_
              refine z_get X (v := .ref (A 33)) d_Mod_workNode_234 (hM.lo 38 (by decide)) hM.ob cl_Mod in_Mod 33 (by decide) fl_Mod_81 rfl rfl ?_
              refine z_iload X d_Mod_workNode_237 rfl ?_
              obtain ⟨b239, h⟩ := gd h
              refine z_iald X (g := (μ.2.1 33)) d_Mod_workNode_239 (hM.lo 33 (by decide)) (hM.iA 33 400 rfl) (t0 := 0) rfl (vp_of b239) ?_
              refine z_aload_n X d_Mod_workNode_240 rfl ?_
              refine z_get X (v := .ref (A 33)) d_Mod_workNode_241 (hM.lo 38 (by decide)) hM.ob cl_Mod in_Mod 33 (by decide) fl_Mod_81 rfl rfl ?_
              refine z_iload X d_Mod_workNode_244 rfl ?_
              obtain ⟨b246, h⟩ := gd h
              refine z_iald X (g := (μ.2.1 33)) d_Mod_workNode_246 (hM.lo 33 (by decide)) (hM.iA 33 400 rfl) (t0 := 0) rfl (vp_of b246) ?_
              obtain ⟨p247, q247, h⟩ := bd h
              refine z_callS X zG_ok (c_Mod_and q247) d_Mod_workNode_247 ⟨(z_cb (n := 2) X.2.2.2.2.1 ml_Mod_209 mc_Mod_and ini_Mod (by decide +kernel) rfl rfl ⟨Nat.le_of_ble_eq_true rfl, Nat.le_of_ble_eq_true rfl⟩), X.2.2.2.2.1 _ st_Mod_and⟩ rfl rfl (Nat.le_of_ble_eq_true rfl) ⟨Nat.le_of_ble_eq_true rfl, Nat.le_of_ble_eq_true rfl⟩ (fun r N1 f1 hp hN1 => ?_)
              obtain ⟨rfl, rfl, rfl⟩ := hp
              refine z_goto X 270 d_Mod_workNode_250 (by decide) ?_
              obtain ⟨b270, h⟩ := gd h
              refine z_iastM X d_Mod_workNode_270 hM 33 400 rfl rfl (vp_of b270) (fun hM => ?_)
              refine zW.pick [0] (lv' := [(0, .ref (A 38))]) rfl ?_
              exact (L 4096) _ _ hM h
          · skip
            have h := (if_pos h211).symm.trans h
            refine z_aload_n X d_Mod_workNode_214 rfl ?_
            refine z_get X (v := .ref (A 33)) d_Mod_workNode_215 (hM.lo 38 (by decide)) hM.ob cl_Mod in_Mod 33 (by decide) fl_Mod_81 rfl rfl ?_
            refine z_iload X d_Mod_workNode_218 rfl ?_
            obtain ⟨b220, h⟩ := gd h
            refine z_iald X (g := (μ.2.1 33)) d_Mod_workNode_220 (hM.lo 33 (by decide)) (hM.iA 33 400 rfl) (t0 := 0) rfl (vp_of b220) ?_
            obtain ⟨p221, q221, h⟩ := bd h
            refine z_callS X zG_ok (c_Mod_not q221) d_Mod_workNode_221 ⟨(z_cb (n := 1) X.2.2.2.2.1 ml_Mod_206 mc_Mod_not ini_Mod (by decide +kernel) rfl rfl ⟨Nat.le_of_ble_eq_true rfl, Nat.le_of_ble_eq_true rfl⟩), X.2.2.2.2.1 _ st_Mod_not⟩ rfl rfl (Nat.le_of_ble_eq_true rfl) ⟨Nat.le_of_ble_eq_true rfl, Nat.le_of_ble_eq_true rfl⟩ (fun r N1 f1 hp hN1 => ?_)
            obtain ⟨rfl, rfl, rfl⟩ := hp
            refine z_goto X 270 d_Mod_workNode_224 (by decide) ?_
            obtain ⟨b270, h⟩ := gd h
            refine z_iastM X d_Mod_workNode_270 hM 33 400 rfl rfl (vp_of b270) (fun hM => ?_)
            refine zW.pick [0] (lv' := [(0, .ref (A 38))]) rfl ?_
            exact (L 4096) _ _ hM h
        · skip
          have h := (if_neg h177).symm.trans h
          refine z_aload_n X d_Mod_workNode_180 rfl ?_
          refine z_get X (v := .ref (A 33)) d_Mod_workNode_181 (hM.lo 38 (by decide)) hM.ob cl_Mod in_Mod 33 (by decide) fl_Mod_81 rfl rfl ?_
          refine z_iload X d_Mod_workNode_184 rfl ?_
          refine z_aload_n X d_Mod_workNode_186 rfl ?_
          refine z_iload X d_Mod_workNode_187 rfl ?_
          refine z_aload_n X d_Mod_workNode_189 rfl ?_
          refine z_get X (v := .ref (A 8)) d_Mod_workNode_190 (hM.lo 38 (by decide)) hM.ob cl_Mod in_Mod 8 (by decide) fl_Mod_19 rfl rfl ?_
          refine z_iload_n X d_Mod_workNode_193 rfl ?_
          refine z_iald X (g := (μ.2.1 8)) d_Mod_workNode_194 (hM.lo 8 (by decide)) (hM.iA 8 800 rfl) (t0 := 0) rfl (vp_of b15) ?_
          obtain ⟨p195, q195, h⟩ := bd h
          refine z_callV X zG_ok (c_Mod_over hM q195) d_Mod_workNode_195 ⟨(z_cb (n := 2) X.2.2.2.2.1 ml_Mod_225 mc_Mod_over ini_Mod (by decide +kernel) rfl rfl ⟨Nat.le_of_ble_eq_true rfl, Nat.le_of_ble_eq_true rfl⟩), X.2.2.2.2.1 _ im_Mod_over, X.2.2.2.2.1 _ sel_Mod_over⟩ (hM.lo 38 (by decide)) hM.ob cl_Mod rfl rfl (Nat.le_of_ble_eq_true rfl) ⟨Nat.le_of_ble_eq_true rfl, Nat.le_of_ble_eq_true rfl⟩ (fun r N1 f1 hp hN1 => ?_)
          obtain ⟨rfl, rfl, hM⟩ := hp
          obtain ⟨b198, h⟩ := gd h
          refine z_iastM X d_Mod_workNode_198 hM 33 400 rfl rfl (vp_of b198) (fun hM => ?_)
          refine z_goto X 271 d_Mod_workNode_199 (by decide) ?_
          refine zW.pick [0] (lv' := [(0, .ref (A 38))]) rfl ?_
          exact (L 4096) _ _ hM h
      · skip
        have h := (if_neg h151).symm.trans h
        refine z_aload_n X d_Mod_workNode_154 rfl ?_
        refine z_get X (v := .ref (A 33)) d_Mod_workNode_155 (hM.lo 38 (by decide)) hM.ob cl_Mod in_Mod 33 (by decide) fl_Mod_81 rfl rfl ?_
        refine z_iload X d_Mod_workNode_158 rfl ?_
        refine z_aload_n X d_Mod_workNode_160 rfl ?_
        refine z_iload X d_Mod_workNode_161 rfl ?_
        refine z_iload X d_Mod_workNode_163 rfl ?_
        refine z_iload X d_Mod_workNode_165 rfl ?_
        obtain ⟨p167, q167, h⟩ := bd h
        refine z_callV X zG_ok (c_Mod_compared hM q167) d_Mod_workNode_167 ⟨(z_cb (n := 3) X.2.2.2.2.1 ml_Mod_221 mc_Mod_compared ini_Mod (by decide +kernel) rfl rfl ⟨Nat.le_of_ble_eq_true rfl, Nat.le_of_ble_eq_true rfl⟩), X.2.2.2.2.1 _ im_Mod_compared, X.2.2.2.2.1 _ sel_Mod_compared⟩ (hM.lo 38 (by decide)) hM.ob cl_Mod rfl rfl (Nat.le_of_ble_eq_true rfl) ⟨Nat.le_of_ble_eq_true rfl, Nat.le_of_ble_eq_true rfl⟩ (fun r N1 f1 hp hN1 => ?_)
        obtain ⟨rfl, rfl, hM⟩ := hp
        obtain ⟨b170, h⟩ := gd h
        refine z_iastM X d_Mod_workNode_170 hM 33 400 rfl rfl (vp_of b170) (fun hM => ?_)
        refine z_goto X 271 d_Mod_workNode_171 (by decide) ?_
        refine zW.pick [0] (lv' := [(0, .ref (A 38))]) rfl ?_
        exact (L 4096) _ _ hM h
    · skip
      have h := (if_neg h63).symm.trans h
      refine z_aload_n X d_Mod_workNode_66 rfl ?_
      refine z_get X (v := .ref (A 32)) d_Mod_workNode_67 (hM.lo 38 (by decide)) hM.ob cl_Mod in_Mod 32 (by decide) fl_Mod_78 rfl rfl ?_
      refine z_iload X d_Mod_workNode_70 rfl ?_
      refine z_aload_n X d_Mod_workNode_72 rfl ?_
      refine z_get X (v := .ref (A 32)) d_Mod_workNode_73 (hM.lo 38 (by decide)) hM.ob cl_Mod in_Mod 32 (by decide) fl_Mod_78 rfl rfl ?_
      refine z_iload X d_Mod_workNode_76 rfl ?_
      obtain ⟨b78, h⟩ := gd h
      refine z_zald X (g := (μ.2.1 32)) d_Mod_workNode_78 (hM.lo 32 (by decide)) (hM.zA 32 400 rfl) (t0 := 1) rfl (vp_of b78) ?_
      refine z_if_eq X 96 d_Mod_workNode_79 (by decide) (fun h79 => ?_) (fun h79 => ?_)
      · skip
        have h := (if_pos h79).symm.trans h
        refine z_iconst X d_Mod_workNode_96 (v := 0) (by decide) ?_
        obtain ⟨b97, h⟩ := gd h
        refine z_zastM X d_Mod_workNode_97 hM 32 400 rfl rfl (vp_of b97) (fun hM => ?_)
        refine z_aload_n X d_Mod_workNode_98 rfl ?_
        refine z_get X (v := .ref (A 31)) d_Mod_workNode_99 (hM.lo 38 (by decide)) hM.ob cl_Mod in_Mod 31 (by decide) fl_Mod_74 rfl rfl ?_
        refine z_iload X d_Mod_workNode_102 rfl ?_
        refine z_iload X d_Mod_workNode_104 rfl ?_
        refine z_bipush X d_Mod_workNode_106 (v := 9) (by decide) ?_
        refine z_icmp_ne X 129 d_Mod_workNode_108 (by decide) (fun h108 => ?_) (fun h108 => ?_)
        · skip
          have h := (if_neg h108).symm.trans h
          refine z_aload_n X d_Mod_workNode_129 rfl ?_
          refine z_get X (v := .ref (A 31)) d_Mod_workNode_130 (hM.lo 38 (by decide)) hM.ob cl_Mod in_Mod 31 (by decide) fl_Mod_74 rfl rfl ?_
          refine z_iload X d_Mod_workNode_133 rfl ?_
          refine z_lald X (g := μ.2.2) d_Mod_workNode_135 (hM.lo 31 (by decide)) hM.jA (t0 := 2) rfl (vp_of b78) ?_
          refine z_aload_n X d_Mod_workNode_136 rfl ?_
          refine z_get X (v := .ref (A 31)) d_Mod_workNode_137 (hM.lo 38 (by decide)) hM.ob cl_Mod in_Mod 31 (by decide) fl_Mod_74 rfl rfl ?_
          refine z_iload X d_Mod_workNode_140 rfl ?_
          obtain ⟨b142, h⟩ := gd h
          refine z_lald X (g := μ.2.2) d_Mod_workNode_142 (hM.lo 31 (by decide)) hM.jA (t0 := 2) rfl (vp_of b142) ?_
          refine z_lsub X d_Mod_workNode_143 ?_
          refine z_lastM X d_Mod_workNode_144 hM rfl (vp_of b97) (fun hM => ?_)
          refine z_goto X 271 d_Mod_workNode_145 (by decide) ?_
          refine zW.pick [0] (lv' := [(0, .ref (A 38))]) rfl ?_
          exact (L 4096) _ _ hM h
        · skip
          have h := (if_pos h108).symm.trans h
          refine z_aload_n X d_Mod_workNode_111 rfl ?_
          refine z_get X (v := .ref (A 31)) d_Mod_workNode_112 (hM.lo 38 (by decide)) hM.ob cl_Mod in_Mod 31 (by decide) fl_Mod_74 rfl rfl ?_
          refine z_iload X d_Mod_workNode_115 rfl ?_
          refine z_lald X (g := μ.2.2) d_Mod_workNode_117 (hM.lo 31 (by decide)) hM.jA (t0 := 2) rfl (vp_of b78) ?_
          refine z_aload_n X d_Mod_workNode_118 rfl ?_
          refine z_get X (v := .ref (A 31)) d_Mod_workNode_119 (hM.lo 38 (by decide)) hM.ob cl_Mod in_Mod 31 (by decide) fl_Mod_74 rfl rfl ?_
          refine z_iload X d_Mod_workNode_122 rfl ?_
          obtain ⟨b124, h⟩ := gd h
          refine z_lald X (g := μ.2.2) d_Mod_workNode_124 (hM.lo 31 (by decide)) hM.jA (t0 := 2) rfl (vp_of b124) ?_
          refine z_ladd X d_Mod_workNode_125 ?_
          refine z_goto X 144 d_Mod_workNode_126 (by decide) ?_
          refine z_lastM X d_Mod_workNode_144 hM rfl (vp_of b97) (fun hM => ?_)
          refine z_goto X 271 d_Mod_workNode_145 (by decide) ?_
          refine zW.pick [0] (lv' := [(0, .ref (A 38))]) rfl ?_
          exact (L 4096) _ _ hM h
      · skip
        have h := (if_neg h79).symm.trans h
        refine z_aload_n X d_Mod_workNode_82 rfl ?_
        refine z_get X (v := .ref (A 32)) d_Mod_workNode_83 (hM.lo 38 (by decide)) hM.ob cl_Mod in_Mod 32 (by decide) fl_Mod_78 rfl rfl ?_
        refine z_iload X d_Mod_workNode_86 rfl ?_
        obtain ⟨b88, h⟩ := gd h
        refine z_zald X (g := (μ.2.1 32)) d_Mod_workNode_88 (hM.lo 32 (by decide)) (hM.zA 32 400 rfl) (t0 := 1) rfl (vp_of b88) ?_
        refine z_if_eq X 96 d_Mod_workNode_89 (by decide) (fun h89 => ?_) (fun h89 => ?_)
        · skip
          have h := (if_pos h89).symm.trans h
          refine z_iconst X d_Mod_workNode_96 (v := 0) (by decide) ?_
          obtain ⟨b97, h⟩ := gd h
          refine z_zastM X d_Mod_workNode_97 hM 32 400 rfl rfl (vp_of b97) (fun hM => ?_)
          refine z_aload_n X d_Mod_workNode_98 rfl ?_
          refine z_get X (v := .ref (A 31)) d_Mod_workNode_99 (hM.lo 38 (by decide)) hM.ob cl_Mod in_Mod 31 (by decide) fl_Mod_74 rfl rfl ?_
          refine z_iload X d_Mod_workNode_102 rfl ?_
          refine z_iload X d_Mod_workNode_104 rfl ?_
          refine z_bipush X d_Mod_workNode_106 (v := 9) (by decide) ?_
          refine z_icmp_ne X 129 d_Mod_workNode_108 (by decide) (fun h108 => ?_) (fun h108 => ?_)
          · skip
            have h := (if_neg h108).symm.trans h
            refine z_aload_n X d_Mod_workNode_129 rfl ?_
            refine z_get X (v := .ref (A 31)) d_Mod_workNode_130 (hM.lo 38 (by decide)) hM.ob cl_Mod in_Mod 31 (by decide) fl_Mod_74 rfl rfl ?_
            refine z_iload X d_Mod_workNode_133 rfl ?_
            refine z_lald X (g := μ.2.2) d_Mod_workNode_135 (hM.lo 31 (by decide)) hM.jA (t0 := 2) rfl (vp_of b78) ?_
            refine z_aload_n X d_Mod_workNode_136 rfl ?_
            refine z_get X (v := .ref (A 31)) d_Mod_workNode_137 (hM.lo 38 (by decide)) hM.ob cl_Mod in_Mod 31 (by decide) fl_Mod_74 rfl rfl ?_
            refine z_iload X d_Mod_workNode_140 rfl ?_
            refine z_lald X (g := μ.2.2) d_Mod_workNode_142 (hM.lo 31 (by decide)) hM.jA (t0 := 2) rfl (vp_of b88) ?_
            refine z_lsub X d_Mod_workNode_143 ?_
            refine z_lastM X d_Mod_workNode_144 hM rfl (vp_of b97) (fun hM => ?_)
            refine z_goto X 271 d_Mod_workNode_145 (by decide) ?_
            refine zW.pick [0] (lv' := [(0, .ref (A 38))]) rfl ?_
            exact (L 4096) _ _ hM h
          · skip
            have h := (if_pos h108).symm.trans h
            refine z_aload_n X d_Mod_workNode_111 rfl ?_
            refine z_get X (v := .ref (A 31)) d_Mod_workNode_112 (hM.lo 38 (by decide)) hM.ob cl_Mod in_Mod 31 (by decide) fl_Mod_74 rfl rfl ?_
            refine z_iload X d_Mod_workNode_115 rfl ?_
            refine z_lald X (g := μ.2.2) d_Mod_workNode_117 (hM.lo 31 (by decide)) hM.jA (t0 := 2) rfl (vp_of b78) ?_
            refine z_aload_n X d_Mod_workNode_118 rfl ?_
            refine z_get X (v := .ref (A 31)) d_Mod_workNode_119 (hM.lo 38 (by decide)) hM.ob cl_Mod in_Mod 31 (by decide) fl_Mod_74 rfl rfl ?_
            refine z_iload X d_Mod_workNode_122 rfl ?_
            refine z_lald X (g := μ.2.2) d_Mod_workNode_124 (hM.lo 31 (by decide)) hM.jA (t0 := 2) rfl (vp_of b88) ?_
            refine z_ladd X d_Mod_workNode_125 ?_
            refine z_goto X 144 d_Mod_workNode_126 (by decide) ?_
            refine z_lastM X d_Mod_workNode_144 hM rfl (vp_of b97) (fun hM => ?_)
            refine z_goto X 271 d_Mod_workNode_145 (by decide) ?_
            refine zW.pick [0] (lv' := [(0, .ref (A 38))]) rfl ?_
            exact (L 4096) _ _ hM h
        · skip
          have h := (if_neg h89).symm.trans h
          refine z_iconst X d_Mod_workNode_92 (v := 1) (by decide) ?_
          refine z_goto X 97 d_Mod_workNode_93 (by decide) ?_
          obtain ⟨b97, h⟩ := gd h
          refine z_zastM X d_Mod_workNode_97 hM 32 400 rfl rfl (vp_of b97) (fun hM => ?_)
          refine z_aload_n X d_Mod_workNode_98 rfl ?_
          refine z_get X (v := .ref (A 31)) d_Mod_workNode_99 (hM.lo 38 (by decide)) hM.ob cl_Mod in_Mod 31 (by decide) fl_Mod_74 rfl rfl ?_
          refine z_iload X d_Mod_workNode_102 rfl ?_
          refine z_iload X d_Mod_workNode_104 rfl ?_
          refine z_bipush X d_Mod_workNode_106 (v := 9) (by decide) ?_
          refine z_icmp_ne X 129 d_Mod_workNode_108 (by decide) (fun h108 => ?_) (fun h108 => ?_)
          · skip
            have h := (if_neg h108).symm.trans h
            refine z_aload_n X d_Mod_workNode_129 rfl ?_
            refine z_get X (v := .ref (A 31)) d_Mod_workNode_130 (hM.lo 38 (by decide)) hM.ob cl_Mod in_Mod 31 (by decide) fl_Mod_74 rfl rfl ?_
            refine z_iload X d_Mod_workNode_133 rfl ?_
            refine z_lald X (g := μ.2.2) d_Mod_workNode_135 (hM.lo 31 (by decide)) hM.jA (t0 := 2) rfl (vp_of b78) ?_
            refine z_aload_n X d_Mod_workNode_136 rfl ?_
            refine z_get X (v := .ref (A 31)) d_Mod_workNode_137 (hM.lo 38 (by decide)) hM.ob cl_Mod in_Mod 31 (by decide) fl_Mod_74 rfl rfl ?_
            refine z_iload X d_Mod_workNode_140 rfl ?_
            refine z_lald X (g := μ.2.2) d_Mod_workNode_142 (hM.lo 31 (by decide)) hM.jA (t0 := 2) rfl (vp_of b88) ?_
            refine z_lsub X d_Mod_workNode_143 ?_
            refine z_lastM X d_Mod_workNode_144 hM rfl (vp_of b97) (fun hM => ?_)
            refine z_goto X 271 d_Mod_workNode_145 (by decide) ?_
            refine zW.pick [0] (lv' := [(0, .ref (A 38))]) rfl ?_
            exact (L 4096) _ _ hM h
          · skip
            have h := (if_pos h108).symm.trans h
            refine z_aload_n X d_Mod_workNode_111 rfl ?_
            refine z_get X (v := .ref (A 31)) d_Mod_workNode_112 (hM.lo 38 (by decide)) hM.ob cl_Mod in_Mod 31 (by decide) fl_Mod_74 rfl rfl ?_
            refine z_iload X d_Mod_workNode_115 rfl ?_
            refine z_lald X (g := μ.2.2) d_Mod_workNode_117 (hM.lo 31 (by decide)) hM.jA (t0 := 2) rfl (vp_of b78) ?_
            refine z_aload_n X d_Mod_workNode_118 rfl ?_
            refine z_get X (v := .ref (A 31)) d_Mod_workNode_119 (hM.lo 38 (by decide)) hM.ob cl_Mod in_Mod 31 (by decide) fl_Mod_74 rfl rfl ?_
            refine z_iload X d_Mod_workNode_122 rfl ?_
            refine z_lald X (g := μ.2.2) d_Mod_workNode_124 (hM.lo 31 (by decide)) hM.jA (t0 := 2) rfl (vp_of b88) ?_
            refine z_ladd X d_Mod_workNode_125 ?_
            refine z_goto X 144 d_Mod_workNode_126 (by decide) ?_
            refine z_lastM X d_Mod_workNode_144 hM rfl (vp_of b97) (fun hM => ?_)
            refine z_goto X 271 d_Mod_workNode_145 (by decide) ?_
            refine zW.pick [0] (lv' := [(0, .ref (A 38))]) rfl ?_
            exact (L 4096) _ _ hM h
  · skip
    have h := (if_neg h46).symm.trans h
    refine z_aload_n X d_Mod_workNode_49 rfl ?_
    refine z_iload_n X d_Mod_workNode_50 rfl ?_
    refine z_iload_n X d_Mod_workNode_51 rfl ?_
    refine z_iload_n X d_Mod_workNode_52 rfl ?_
    obtain ⟨p53, q53, h⟩ := bd h
    refine z_callV X zG_ok (c_Mod_workTerm hM q53) d_Mod_workNode_53 ⟨(z_cb (n := 3) X.2.2.2.2.1 ml_Mod_217 mc_Mod_workTerm ini_Mod (by decide +kernel) rfl rfl ⟨Nat.le_of_ble_eq_true rfl, Nat.le_of_ble_eq_true rfl⟩), X.2.2.2.2.1 _ im_Mod_workTerm, X.2.2.2.2.1 _ sel_Mod_workTerm⟩ (hM.lo 38 (by decide)) hM.ob cl_Mod rfl rfl (Nat.le_of_ble_eq_true rfl) ⟨Nat.le_of_ble_eq_true rfl, Nat.le_of_ble_eq_true rfl⟩ (fun r N1 f1 hp hN1 => ?_)
    obtain ⟨rfl, rfl, hM⟩ := hp
    refine z_goto X 271 d_Mod_workNode_56 (by decide) ?_
    refine zW.pick [0] (lv' := [(0, .ref (A 38))]) rfl ?_
    exact (L 4096) _ _ hM h
theorem d_Mod_work_0 : decode prog_10_method_38_code 0 = .ok (.aload_n 0, 1) := by decide +kernel
theorem d_Mod_work_1 : decode prog_10_method_38_code 1 = .ok (.getfield 25, 3) := by decide +kernel
theorem d_Mod_work_4 : decode prog_10_method_38_code 4 = .ok (.iload_n 1, 1) := by decide +kernel
theorem d_Mod_work_5 : decode prog_10_method_38_code 5 = .ok (.iaload, 1) := by decide +kernel
theorem d_Mod_work_6 : decode prog_10_method_38_code 6 = .ok (.iconst 1, 1) := by decide +kernel
theorem d_Mod_work_7 : decode prog_10_method_38_code 7 = .ok (.isub, 1) := by decide +kernel
theorem d_Mod_work_8 : decode prog_10_method_38_code 8 = .ok (.istore_n 2, 1) := by decide +kernel
theorem d_Mod_work_9 : decode prog_10_method_38_code 9 = .ok (.iload_n 2, 1) := by decide +kernel
theorem d_Mod_work_10 : decode prog_10_method_38_code 10 = .ok (.ifCond .lt 35, 3) := by decide +kernel
theorem d_Mod_work_13 : decode prog_10_method_38_code 13 = .ok (.iconst 0, 1) := by decide +kernel
theorem d_Mod_work_14 : decode prog_10_method_38_code 14 = .ok (.istore_n 3, 1) := by decide +kernel
theorem d_Mod_work_15 : decode prog_10_method_38_code 15 = .ok (.iload_n 3, 1) := by decide +kernel
theorem d_Mod_work_16 : decode prog_10_method_38_code 16 = .ok (.bipush 10, 2) := by decide +kernel
theorem d_Mod_work_18 : decode prog_10_method_38_code 18 = .ok (.if_icmp .ge 21, 3) := by decide +kernel
theorem d_Mod_work_21 : decode prog_10_method_38_code 21 = .ok (.aload_n 0, 1) := by decide +kernel
theorem d_Mod_work_22 : decode prog_10_method_38_code 22 = .ok (.bipush 40, 2) := by decide +kernel
theorem d_Mod_work_24 : decode prog_10_method_38_code 24 = .ok (.iload_n 1, 1) := by decide +kernel
theorem d_Mod_work_25 : decode prog_10_method_38_code 25 = .ok (.imul, 1) := by decide +kernel
theorem d_Mod_work_26 : decode prog_10_method_38_code 26 = .ok (.iload_n 2, 1) := by decide +kernel
theorem d_Mod_work_27 : decode prog_10_method_38_code 27 = .ok (.iadd, 1) := by decide +kernel
theorem d_Mod_work_28 : decode prog_10_method_38_code 28 = .ok (.iload_n 2, 1) := by decide +kernel
theorem d_Mod_work_29 : decode prog_10_method_38_code 29 = .ok (.iload_n 3, 1) := by decide +kernel
theorem d_Mod_work_30 : decode prog_10_method_38_code 30 = .ok (.invokevirtual 228, 3) := by decide +kernel
theorem d_Mod_work_33 : decode prog_10_method_38_code 33 = .ok (.iinc 3 1, 3) := by decide +kernel
theorem d_Mod_work_36 : decode prog_10_method_38_code 36 = .ok (.goto (-21), 3) := by decide +kernel
theorem d_Mod_work_39 : decode prog_10_method_38_code 39 = .ok (.iinc 2 (-1), 3) := by decide +kernel
theorem d_Mod_work_42 : decode prog_10_method_38_code 42 = .ok (.goto (-33), 3) := by decide +kernel
theorem d_Mod_work_45 : decode prog_10_method_38_code 45 = .ok (.aload_n 0, 1) := by decide +kernel
theorem d_Mod_work_46 : decode prog_10_method_38_code 46 = .ok (.getfield 81, 3) := by decide +kernel
theorem d_Mod_work_49 : decode prog_10_method_38_code 49 = .ok (.iconst 0, 1) := by decide +kernel
theorem d_Mod_work_50 : decode prog_10_method_38_code 50 = .ok (.iaload, 1) := by decide +kernel
theorem d_Mod_work_51 : decode prog_10_method_38_code 51 = .ok (.ireturn, 1) := by decide +kernel
def m_work_B : Nat → Nat → Int32 → Int32 → Int32 → MS → Option (Int32 × MS)
  | 0, _, _, _, _, _ => none
  | n + 1, b, x1, x2, x3, μ => if b = 0 then (if x2 < 0 then (if inb 0 400 = true then some (((μ.2.1 33) (0 : Int32).toNatClampNeg), μ) else none) else m_work_B n 1 x1 x2 0 μ)
    else (if 10 ≤ x3 then m_work_B n 0 x1 (x2 + (-1)) 0 μ else (m_workNode ((40 * x1) + x2) x2 x3 μ).bind (fun p30 => m_work_B n 1 x1 x2 (x3 + 1) p30))
theorem m_work_b0 (n : Nat) (x1 : Int32) (x2 : Int32) (x3 : Int32) (μ : MS) : m_work_B (n + 1) 0 x1 x2 x3 μ = (if x2 < 0 then (if inb 0 400 = true then some (((μ.2.1 33) (0 : Int32).toNatClampNeg), μ) else none) else m_work_B n 1 x1 x2 0 μ) := by
  rw [m_work_B, if_pos rfl]
theorem m_work_b1 (n : Nat) (x1 : Int32) (x2 : Int32) (x3 : Int32) (μ : MS) : m_work_B (n + 1) 1 x1 x2 x3 μ = (if 10 ≤ x3 then m_work_B n 0 x1 (x2 + (-1)) 0 μ else (m_workNode ((40 * x1) + x2) x2 x3 μ).bind (fun p30 => m_work_B n 1 x1 x2 (x3 + 1) p30)) := by
  rw [m_work_B, if_neg (by decide)]
def m_work (x1 : Int32) (μ : MS) : Option (Int32 × MS) := (if inb x1 20 = true then m_work_B 4096 0 x1 (((μ.2.1 10) x1.toNatClampNeg) - 1) 0 μ else none)
set_option maxHeartbeats 4000000 in
set_option maxRecDepth 100000 in
theorem c_Mod_work {A : Nat → Nat} {f0 : Nat → va_E} {μ : MS} {x1 : Int32} {res : (Int32 × MS)} (hM : zMf ck b0 N A f0 f μ) (h : m_work x1 μ = some res) : zK l D ck ad b0 y_Mod_work prog_10_method_38_code 4 ((some FieldType.int)) 4 0 0 [.ref (A 38), .int x1] N f (fun r N' f' => r = some (.int res.1) ∧ N = N' ∧ zMf ck b0 N A f0 f' res.2) := by
  refine zM.of zG_w (by decide) (Nat.le_of_ble_eq_true rfl) ?_
  intro zp ze zst zm zar zbe zme zc X hnm hb0
  have L : ∀ n : Nat, (∀ (x1 : Int32) (x2 : Int32) (x3 : Int32) (f1 : Nat → va_E) (μ : MS), zMf ck b0 N A f0 f1 μ → m_work_B n 0 x1 x2 x3 μ = some res → zW zp l ze (zR 4 0 0) zst zm zar zbe zme zc D zcl b0 4 0 0 (MQ zbe (zQ D zcl b0 (fun r N' f' => r = some (.int res.1) ∧ N = N' ∧ zMf ck b0 N A f0 f' res.2)) zar zst 0 0 (zA b0)) N f1 9 [(0, .ref (A 38)), (1, .int x1), (2, .int x2)] []) ∧ (∀ (x1 : Int32) (x2 : Int32) (x3 : Int32) (f1 : Nat → va_E) (μ : MS), zMf ck b0 N A f0 f1 μ → m_work_B n 1 x1 x2 x3 μ = some res → zW zp l ze (zR 4 0 0) zst zm zar zbe zme zc D zcl b0 4 0 0 (MQ zbe (zQ D zcl b0 (fun r N' f' => r = some (.int res.1) ∧ N = N' ∧ zMf ck b0 N A f0 f' res.2)) zar zst 0 0 (zA b0)) N f1 15 [(0, .ref (A 38)), (1, .int x1), (2, .int x2), (3, .int x3)] []) := by
    intro n
    induction n with
    | zero =>
      exact ⟨fun _ _ _ _ _ _ h => (by rw [m_work_B] at h; cases h), fun _ _ _ _ _ _ h => (by rw [m_work_B] at h; cases h)⟩
    | succ n ih =>
      refine ⟨?_, ?_⟩
      · intro x1 x2 x3 f1 μ hM h
        rw [m_work_b0] at h
        refine z_iload_n X d_Mod_work_9 rfl ?_
        refine z_if_lt X 45 d_Mod_work_10 (by decide) (fun h10 => ?_) (fun h10 => ?_)
        · skip
          have h := (if_pos h10).symm.trans h
          refine z_aload_n X d_Mod_work_45 rfl ?_
          refine z_get X (v := .ref (A 33)) d_Mod_work_46 (hM.lo 38 (by decide)) hM.ob cl_Mod in_Mod 33 (by decide) fl_Mod_81 rfl rfl ?_
          refine z_iconst X d_Mod_work_49 (v := 0) (by decide) ?_
          obtain ⟨b50, h⟩ := gd h
          refine z_iald X (g := (μ.2.1 33)) d_Mod_work_50 (hM.lo 33 (by decide)) (hM.iA 33 400 rfl) (t0 := 0) rfl (vp_of b50) ?_
          have e9 := Option.some.inj h
          subst e9
          exact z_iret X d_Mod_work_51 ⟨rfl, rfl, hM⟩
        · skip
          have h := (if_neg h10).symm.trans h
          refine z_iconst X d_Mod_work_13 (v := 0) (by decide) ?_
          refine z_istore_n X d_Mod_work_14 (by decide) rfl ?_
          refine zW.pick [0, 1, 2, 3] (lv' := [(0, .ref (A 38)), (1, .int x1), (2, .int x2), (3, .int 0)]) rfl ?_
          exact (ih).2 x1 x2 0 _ _ hM h
      · intro x1 x2 x3 f1 μ hM h
        rw [m_work_b1] at h
        refine z_iload_n X d_Mod_work_15 rfl ?_
        refine z_bipush X d_Mod_work_16 (v := 10) (by decide) ?_
        refine z_icmp_ge X 39 d_Mod_work_18 (by decide) (fun h18 => ?_) (fun h18 => ?_)
        · skip
          have h := (if_pos h18).symm.trans h
          refine z_iinc X d_Mod_work_39 rfl (iic (-1) (-1) (by decide) _) (by decide) rfl ?_
          refine z_goto X 9 d_Mod_work_42 (by decide) ?_
          refine zW.pick [0, 1, 2] (lv' := [(0, .ref (A 38)), (1, .int x1), (2, .int (x2 + (-1)))]) rfl ?_
          exact (ih).1 x1 (x2 + (-1)) 0 _ _ hM h
        · skip
          have h := (if_neg h18).symm.trans h
          refine z_aload_n X d_Mod_work_21 rfl ?_
          refine z_bipush X d_Mod_work_22 (v := 40) (by decide) ?_
          refine z_iload_n X d_Mod_work_24 rfl ?_
          refine z_imul X d_Mod_work_25 ?_
          refine z_iload_n X d_Mod_work_26 rfl ?_
          refine z_iadd X d_Mod_work_27 ?_
          refine z_iload_n X d_Mod_work_28 rfl ?_
          refine z_iload_n X d_Mod_work_29 rfl ?_
          obtain ⟨p30, q30, h⟩ := bd h
          refine z_callV X zG_ok (c_Mod_workNode hM q30) d_Mod_work_30 ⟨(z_cb (n := 3) X.2.2.2.2.1 ml_Mod_228 mc_Mod_workNode ini_Mod (by decide +kernel) rfl rfl ⟨Nat.le_of_ble_eq_true rfl, Nat.le_of_ble_eq_true rfl⟩), X.2.2.2.2.1 _ im_Mod_workNode, X.2.2.2.2.1 _ sel_Mod_workNode⟩ (hM.lo 38 (by decide)) hM.ob cl_Mod rfl rfl (Nat.le_of_ble_eq_true rfl) ⟨Nat.le_of_ble_eq_true rfl, Nat.le_of_ble_eq_true rfl⟩ (fun r N1 f1 hp hN1 => ?_)
          obtain ⟨rfl, rfl, hM⟩ := hp
          refine z_iinc X d_Mod_work_33 rfl (iic 1 1 (by decide) _) (by decide) rfl ?_
          refine z_goto X 15 d_Mod_work_36 (by decide) ?_
          refine zW.pick [0, 1, 2, 3] (lv' := [(0, .ref (A 38)), (1, .int x1), (2, .int x2), (3, .int (x3 + 1))]) rfl ?_
          exact (ih).2 x1 x2 (x3 + 1) _ _ hM h
  rw [m_work] at h
  refine z_aload_n X d_Mod_work_0 rfl ?_
  refine z_get X (v := .ref (A 10)) d_Mod_work_1 (hM.lo 38 (by decide)) hM.ob cl_Mod in_Mod 10 (by decide) fl_Mod_25 rfl rfl ?_
  refine z_iload_n X d_Mod_work_4 rfl ?_
  obtain ⟨b5, h⟩ := gd h
  refine z_iald X (g := (μ.2.1 10)) d_Mod_work_5 (hM.lo 10 (by decide)) (hM.iA 10 20 rfl) (t0 := 0) rfl (vp_of b5) ?_
  refine z_iconst X d_Mod_work_6 (v := 1) (by decide) ?_
  refine z_isub X d_Mod_work_7 ?_
  refine z_istore_n X d_Mod_work_8 (by decide) rfl ?_
  refine zW.pick [0, 1, 2] (lv' := [(0, .ref (A 38)), (1, .int x1), (2, .int (((μ.2.1 10) x1.toNatClampNeg) - 1))]) rfl ?_
  exact (L 4096).1 x1 (((μ.2.1 10) x1.toNatClampNeg) - 1) 0 _ _ hM h
end
