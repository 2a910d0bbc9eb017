/-! the reference's constructor -/
theorem d_Mod_init_0 : decode prog_10_method_1_code 0 = .ok (.aload_n 0, 1) := by decide +kernel
theorem d_Mod_init_1 : decode prog_10_method_1_code 1 = .ok (.invokespecial 1, 3) := by decide +kernel
theorem d_Mod_init_4 : decode prog_10_method_1_code 4 = .ok (.aload_n 0, 1) := by decide +kernel
theorem d_Mod_init_5 : decode prog_10_method_1_code 5 = .ok (.sipush 200, 3) := by decide +kernel
theorem d_Mod_init_8 : decode prog_10_method_1_code 8 = .ok (.newarray .int, 2) := by decide +kernel
theorem d_Mod_init_10 : decode prog_10_method_1_code 10 = .ok (.putfield 7, 3) := by decide +kernel
theorem d_Mod_init_13 : decode prog_10_method_1_code 13 = .ok (.aload_n 0, 1) := by decide +kernel
theorem d_Mod_init_14 : decode prog_10_method_1_code 14 = .ok (.sipush 800, 3) := by decide +kernel
theorem d_Mod_init_17 : decode prog_10_method_1_code 17 = .ok (.newarray .int, 2) := by decide +kernel
theorem d_Mod_init_19 : decode prog_10_method_1_code 19 = .ok (.putfield 13, 3) := by decide +kernel
theorem d_Mod_init_22 : decode prog_10_method_1_code 22 = .ok (.aload_n 0, 1) := by decide +kernel
theorem d_Mod_init_23 : decode prog_10_method_1_code 23 = .ok (.sipush 800, 3) := by decide +kernel
theorem d_Mod_init_26 : decode prog_10_method_1_code 26 = .ok (.newarray .int, 2) := by decide +kernel
theorem d_Mod_init_28 : decode prog_10_method_1_code 28 = .ok (.putfield 16, 3) := by decide +kernel
theorem d_Mod_init_31 : decode prog_10_method_1_code 31 = .ok (.aload_n 0, 1) := by decide +kernel
theorem d_Mod_init_32 : decode prog_10_method_1_code 32 = .ok (.sipush 800, 3) := by decide +kernel
theorem d_Mod_init_35 : decode prog_10_method_1_code 35 = .ok (.newarray .int, 2) := by decide +kernel
theorem d_Mod_init_37 : decode prog_10_method_1_code 37 = .ok (.putfield 19, 3) := by decide +kernel
theorem d_Mod_init_40 : decode prog_10_method_1_code 40 = .ok (.aload_n 0, 1) := by decide +kernel
theorem d_Mod_init_41 : decode prog_10_method_1_code 41 = .ok (.sipush 800, 3) := by decide +kernel
theorem d_Mod_init_44 : decode prog_10_method_1_code 44 = .ok (.newarray .int, 2) := by decide +kernel
theorem d_Mod_init_46 : decode prog_10_method_1_code 46 = .ok (.putfield 22, 3) := by decide +kernel
theorem d_Mod_init_49 : decode prog_10_method_1_code 49 = .ok (.aload_n 0, 1) := by decide +kernel
theorem d_Mod_init_50 : decode prog_10_method_1_code 50 = .ok (.bipush 20, 2) := by decide +kernel
theorem d_Mod_init_52 : decode prog_10_method_1_code 52 = .ok (.newarray .int, 2) := by decide +kernel
theorem d_Mod_init_54 : decode prog_10_method_1_code 54 = .ok (.putfield 25, 3) := by decide +kernel
theorem d_Mod_init_57 : decode prog_10_method_1_code 57 = .ok (.aload_n 0, 1) := by decide +kernel
theorem d_Mod_init_58 : decode prog_10_method_1_code 58 = .ok (.bipush 20, 2) := by decide +kernel
theorem d_Mod_init_60 : decode prog_10_method_1_code 60 = .ok (.newarray .int, 2) := by decide +kernel
theorem d_Mod_init_62 : decode prog_10_method_1_code 62 = .ok (.putfield 28, 3) := by decide +kernel
theorem d_Mod_init_65 : decode prog_10_method_1_code 65 = .ok (.aload_n 0, 1) := by decide +kernel
theorem d_Mod_init_66 : decode prog_10_method_1_code 66 = .ok (.bipush 20, 2) := by decide +kernel
theorem d_Mod_init_68 : decode prog_10_method_1_code 68 = .ok (.newarray .boolean, 2) := by decide +kernel
theorem d_Mod_init_70 : decode prog_10_method_1_code 70 = .ok (.putfield 31, 3) := by decide +kernel
theorem d_Mod_init_73 : decode prog_10_method_1_code 73 = .ok (.aload_n 0, 1) := by decide +kernel
theorem d_Mod_init_74 : decode prog_10_method_1_code 74 = .ok (.bipush 20, 2) := by decide +kernel
theorem d_Mod_init_76 : decode prog_10_method_1_code 76 = .ok (.newarray .int, 2) := by decide +kernel
theorem d_Mod_init_78 : decode prog_10_method_1_code 78 = .ok (.putfield 35, 3) := by decide +kernel
theorem d_Mod_init_81 : decode prog_10_method_1_code 81 = .ok (.aload_n 0, 1) := by decide +kernel
theorem d_Mod_init_82 : decode prog_10_method_1_code 82 = .ok (.bipush 20, 2) := by decide +kernel
theorem d_Mod_init_84 : decode prog_10_method_1_code 84 = .ok (.newarray .int, 2) := by decide +kernel
theorem d_Mod_init_86 : decode prog_10_method_1_code 86 = .ok (.putfield 38, 3) := by decide +kernel
theorem d_Mod_init_89 : decode prog_10_method_1_code 89 = .ok (.aload_n 0, 1) := by decide +kernel
theorem d_Mod_init_90 : decode prog_10_method_1_code 90 = .ok (.bipush 20, 2) := by decide +kernel
theorem d_Mod_init_92 : decode prog_10_method_1_code 92 = .ok (.newarray .boolean, 2) := by decide +kernel
theorem d_Mod_init_94 : decode prog_10_method_1_code 94 = .ok (.putfield 41, 3) := by decide +kernel
theorem d_Mod_init_97 : decode prog_10_method_1_code 97 = .ok (.aload_n 0, 1) := by decide +kernel
theorem d_Mod_init_98 : decode prog_10_method_1_code 98 = .ok (.bipush 20, 2) := by decide +kernel
theorem d_Mod_init_100 : decode prog_10_method_1_code 100 = .ok (.newarray .boolean, 2) := by decide +kernel
theorem d_Mod_init_102 : decode prog_10_method_1_code 102 = .ok (.putfield 44, 3) := by decide +kernel
theorem d_Mod_init_105 : decode prog_10_method_1_code 105 = .ok (.aload_n 0, 1) := by decide +kernel
theorem d_Mod_init_106 : decode prog_10_method_1_code 106 = .ok (.bipush 20, 2) := by decide +kernel
theorem d_Mod_init_108 : decode prog_10_method_1_code 108 = .ok (.newarray .boolean, 2) := by decide +kernel
theorem d_Mod_init_110 : decode prog_10_method_1_code 110 = .ok (.putfield 47, 3) := by decide +kernel
theorem d_Mod_init_113 : decode prog_10_method_1_code 113 = .ok (.aload_n 0, 1) := by decide +kernel
theorem d_Mod_init_114 : decode prog_10_method_1_code 114 = .ok (.sipush 200, 3) := by decide +kernel
theorem d_Mod_init_117 : decode prog_10_method_1_code 117 = .ok (.newarray .int, 2) := by decide +kernel
theorem d_Mod_init_119 : decode prog_10_method_1_code 119 = .ok (.putfield 50, 3) := by decide +kernel
theorem d_Mod_init_122 : decode prog_10_method_1_code 122 = .ok (.aload_n 0, 1) := by decide +kernel
theorem d_Mod_init_123 : decode prog_10_method_1_code 123 = .ok (.sipush 200, 3) := by decide +kernel
theorem d_Mod_init_126 : decode prog_10_method_1_code 126 = .ok (.newarray .boolean, 2) := by decide +kernel
theorem d_Mod_init_128 : decode prog_10_method_1_code 128 = .ok (.putfield 53, 3) := by decide +kernel
theorem d_Mod_init_131 : decode prog_10_method_1_code 131 = .ok (.aload_n 0, 1) := by decide +kernel
theorem d_Mod_init_132 : decode prog_10_method_1_code 132 = .ok (.bipush 40, 2) := by decide +kernel
theorem d_Mod_init_134 : decode prog_10_method_1_code 134 = .ok (.newarray .int, 2) := by decide +kernel
theorem d_Mod_init_136 : decode prog_10_method_1_code 136 = .ok (.putfield 56, 3) := by decide +kernel
theorem d_Mod_init_139 : decode prog_10_method_1_code 139 = .ok (.aload_n 0, 1) := by decide +kernel
theorem d_Mod_init_140 : decode prog_10_method_1_code 140 = .ok (.bipush 40, 2) := by decide +kernel
theorem d_Mod_init_142 : decode prog_10_method_1_code 142 = .ok (.newarray .int, 2) := by decide +kernel
theorem d_Mod_init_144 : decode prog_10_method_1_code 144 = .ok (.putfield 59, 3) := by decide +kernel
theorem d_Mod_init_147 : decode prog_10_method_1_code 147 = .ok (.aload_n 0, 1) := by decide +kernel
theorem d_Mod_init_148 : decode prog_10_method_1_code 148 = .ok (.bipush 40, 2) := by decide +kernel
theorem d_Mod_init_150 : decode prog_10_method_1_code 150 = .ok (.newarray .int, 2) := by decide +kernel
theorem d_Mod_init_152 : decode prog_10_method_1_code 152 = .ok (.putfield 62, 3) := by decide +kernel
theorem d_Mod_init_155 : decode prog_10_method_1_code 155 = .ok (.aload_n 0, 1) := by decide +kernel
theorem d_Mod_init_156 : decode prog_10_method_1_code 156 = .ok (.bipush 40, 2) := by decide +kernel
theorem d_Mod_init_158 : decode prog_10_method_1_code 158 = .ok (.newarray .int, 2) := by decide +kernel
theorem d_Mod_init_160 : decode prog_10_method_1_code 160 = .ok (.putfield 65, 3) := by decide +kernel
theorem d_Mod_init_163 : decode prog_10_method_1_code 163 = .ok (.aload_n 0, 1) := by decide +kernel
theorem d_Mod_init_164 : decode prog_10_method_1_code 164 = .ok (.bipush 64, 2) := by decide +kernel
theorem d_Mod_init_166 : decode prog_10_method_1_code 166 = .ok (.newarray .int, 2) := by decide +kernel
theorem d_Mod_init_168 : decode prog_10_method_1_code 168 = .ok (.putfield 68, 3) := by decide +kernel
theorem d_Mod_init_171 : decode prog_10_method_1_code 171 = .ok (.aload_n 0, 1) := by decide +kernel
theorem d_Mod_init_172 : decode prog_10_method_1_code 172 = .ok (.bipush 64, 2) := by decide +kernel
theorem d_Mod_init_174 : decode prog_10_method_1_code 174 = .ok (.newarray .int, 2) := by decide +kernel
theorem d_Mod_init_176 : decode prog_10_method_1_code 176 = .ok (.putfield 71, 3) := by decide +kernel
theorem d_Mod_init_179 : decode prog_10_method_1_code 179 = .ok (.aload_n 0, 1) := by decide +kernel
theorem d_Mod_init_180 : decode prog_10_method_1_code 180 = .ok (.sipush 400, 3) := by decide +kernel
theorem d_Mod_init_183 : decode prog_10_method_1_code 183 = .ok (.newarray .long, 2) := by decide +kernel
theorem d_Mod_init_185 : decode prog_10_method_1_code 185 = .ok (.putfield 74, 3) := by decide +kernel
theorem d_Mod_init_188 : decode prog_10_method_1_code 188 = .ok (.aload_n 0, 1) := by decide +kernel
theorem d_Mod_init_189 : decode prog_10_method_1_code 189 = .ok (.sipush 400, 3) := by decide +kernel
theorem d_Mod_init_192 : decode prog_10_method_1_code 192 = .ok (.newarray .boolean, 2) := by decide +kernel
theorem d_Mod_init_194 : decode prog_10_method_1_code 194 = .ok (.putfield 78, 3) := by decide +kernel
theorem d_Mod_init_197 : decode prog_10_method_1_code 197 = .ok (.aload_n 0, 1) := by decide +kernel
theorem d_Mod_init_198 : decode prog_10_method_1_code 198 = .ok (.sipush 400, 3) := by decide +kernel
theorem d_Mod_init_201 : decode prog_10_method_1_code 201 = .ok (.newarray .int, 2) := by decide +kernel
theorem d_Mod_init_203 : decode prog_10_method_1_code 203 = .ok (.putfield 81, 3) := by decide +kernel
theorem d_Mod_init_206 : decode prog_10_method_1_code 206 = .ok (.aload_n 0, 1) := by decide +kernel
theorem d_Mod_init_207 : decode prog_10_method_1_code 207 = .ok (.bipush 64, 2) := by decide +kernel
theorem d_Mod_init_209 : decode prog_10_method_1_code 209 = .ok (.newarray .int, 2) := by decide +kernel
theorem d_Mod_init_211 : decode prog_10_method_1_code 211 = .ok (.putfield 84, 3) := by decide +kernel
theorem d_Mod_init_214 : decode prog_10_method_1_code 214 = .ok (.aload_n 0, 1) := by decide +kernel
theorem d_Mod_init_215 : decode prog_10_method_1_code 215 = .ok (.sipush 2000, 3) := by decide +kernel
theorem d_Mod_init_218 : decode prog_10_method_1_code 218 = .ok (.newarray .int, 2) := by decide +kernel
theorem d_Mod_init_220 : decode prog_10_method_1_code 220 = .ok (.putfield 87, 3) := by decide +kernel
theorem d_Mod_init_223 : decode prog_10_method_1_code 223 = .ok (.aload_n 0, 1) := by decide +kernel
theorem d_Mod_init_224 : decode prog_10_method_1_code 224 = .ok (.sipush 400, 3) := by decide +kernel
theorem d_Mod_init_227 : decode prog_10_method_1_code 227 = .ok (.newarray .int, 2) := by decide +kernel
theorem d_Mod_init_229 : decode prog_10_method_1_code 229 = .ok (.putfield 90, 3) := by decide +kernel
theorem d_Mod_init_232 : decode prog_10_method_1_code 232 = .ok (.return_, 1) := by decide +kernel
def mA (a N : Nat) : Nat → Nat := fun k => match k with
  | 1 => N
  | 6 => N + 1
  | 7 => N + 2
  | 8 => N + 3
  | 9 => N + 4
  | 10 => N + 5
  | 11 => N + 6
  | 12 => N + 7
  | 13 => N + 8
  | 14 => N + 9
  | 15 => N + 10
  | 16 => N + 11
  | 17 => N + 12
  | 18 => N + 13
  | 19 => N + 14
  | 20 => N + 15
  | 21 => N + 16
  | 22 => N + 17
  | 23 => N + 18
  | 28 => N + 19
  | 29 => N + 20
  | 31 => N + 21
  | 32 => N + 22
  | 33 => N + 23
  | 34 => N + 24
  | 35 => N + 25
  | 37 => N + 26
  | _ => a
abbrev μ0 : MS := (fun _ => 0, fun _ _ => 0, fun _ => 0)
abbrev oM0 (N : Nat) : List Value := [.int 0, .ref N, .int 0, .int 0, .int 0, .int 0, .null, .null, .null, .null, .null, .null, .null, .null, .null, .null, .null, .null, .null, .null, .null, .null, .null, .null, .int 0, .int 0, .int 0, .int 0, .null, .null, .int 0, .null, .null, .null, .null, .null, .int 0, .null]
abbrev oM1 (N : Nat) : List Value := [.int 0, .ref N, .int 0, .int 0, .int 0, .int 0, .ref (N + 1), .null, .null, .null, .null, .null, .null, .null, .null, .null, .null, .null, .null, .null, .null, .null, .null, .null, .int 0, .int 0, .int 0, .int 0, .null, .null, .int 0, .null, .null, .null, .null, .null, .int 0, .null]
abbrev oM2 (N : Nat) : List Value := [.int 0, .ref N, .int 0, .int 0, .int 0, .int 0, .ref (N + 1), .ref (N + 2), .null, .null, .null, .null, .null, .null, .null, .null, .null, .null, .null, .null, .null, .null, .null, .null, .int 0, .int 0, .int 0, .int 0, .null, .null, .int 0, .null, .null, .null, .null, .null, .int 0, .null]
abbrev oM3 (N : Nat) : List Value := [.int 0, .ref N, .int 0, .int 0, .int 0, .int 0, .ref (N + 1), .ref (N + 2), .ref (N + 3), .null, .null, .null, .null, .null, .null, .null, .null, .null, .null, .null, .null, .null, .null, .null, .int 0, .int 0, .int 0, .int 0, .null, .null, .int 0, .null, .null, .null, .null, .null, .int 0, .null]
abbrev oM4 (N : Nat) : List Value := [.int 0, .ref N, .int 0, .int 0, .int 0, .int 0, .ref (N + 1), .ref (N + 2), .ref (N + 3), .ref (N + 4), .null, .null, .null, .null, .null, .null, .null, .null, .null, .null, .null, .null, .null, .null, .int 0, .int 0, .int 0, .int 0, .null, .null, .int 0, .null, .null, .null, .null, .null, .int 0, .null]
abbrev oM5 (N : Nat) : List Value := [.int 0, .ref N, .int 0, .int 0, .int 0, .int 0, .ref (N + 1), .ref (N + 2), .ref (N + 3), .ref (N + 4), .ref (N + 5), .null, .null, .null, .null, .null, .null, .null, .null, .null, .null, .null, .null, .null, .int 0, .int 0, .int 0, .int 0, .null, .null, .int 0, .null, .null, .null, .null, .null, .int 0, .null]
abbrev oM6 (N : Nat) : List Value := [.int 0, .ref N, .int 0, .int 0, .int 0, .int 0, .ref (N + 1), .ref (N + 2), .ref (N + 3), .ref (N + 4), .ref (N + 5), .ref (N + 6), .null, .null, .null, .null, .null, .null, .null, .null, .null, .null, .null, .null, .int 0, .int 0, .int 0, .int 0, .null, .null, .int 0, .null, .null, .null, .null, .null, .int 0, .null]
abbrev oM7 (N : Nat) : List Value := [.int 0, .ref N, .int 0, .int 0, .int 0, .int 0, .ref (N + 1), .ref (N + 2), .ref (N + 3), .ref (N + 4), .ref (N + 5), .ref (N + 6), .ref (N + 7), .null, .null, .null, .null, .null, .null, .null, .null, .null, .null, .null, .int 0, .int 0, .int 0, .int 0, .null, .null, .int 0, .null, .null, .null, .null, .null, .int 0, .null]
abbrev oM8 (N : Nat) : List Value := [.int 0, .ref N, .int 0, .int 0, .int 0, .int 0, .ref (N + 1), .ref (N + 2), .ref (N + 3), .ref (N + 4), .ref (N + 5), .ref (N + 6), .ref (N + 7), .ref (N + 8), .null, .null, .null, .null, .null, .null, .null, .null, .null, .null, .int 0, .int 0, .int 0, .int 0, .null, .null, .int 0, .null, .null, .null, .null, .null, .int 0, .null]
abbrev oM9 (N : Nat) : List Value := [.int 0, .ref N, .int 0, .int 0, .int 0, .int 0, .ref (N + 1), .ref (N + 2), .ref (N + 3), .ref (N + 4), .ref (N + 5), .ref (N + 6), .ref (N + 7), .ref (N + 8), .ref (N + 9), .null, .null, .null, .null, .null, .null, .null, .null, .null, .int 0, .int 0, .int 0, .int 0, .null, .null, .int 0, .null, .null, .null, .null, .null, .int 0, .null]
abbrev oM10 (N : Nat) : List Value := [.int 0, .ref N, .int 0, .int 0, .int 0, .int 0, .ref (N + 1), .ref (N + 2), .ref (N + 3), .ref (N + 4), .ref (N + 5), .ref (N + 6), .ref (N + 7), .ref (N + 8), .ref (N + 9), .ref (N + 10), .null, .null, .null, .null, .null, .null, .null, .null, .int 0, .int 0, .int 0, .int 0, .null, .null, .int 0, .null, .null, .null, .null, .null, .int 0, .null]
abbrev oM11 (N : Nat) : List Value := [.int 0, .ref N, .int 0, .int 0, .int 0, .int 0, .ref (N + 1), .ref (N + 2), .ref (N + 3), .ref (N + 4), .ref (N + 5), .ref (N + 6), .ref (N + 7), .ref (N + 8), .ref (N + 9), .ref (N + 10), .ref (N + 11), .null, .null, .null, .null, .null, .null, .null, .int 0, .int 0, .int 0, .int 0, .null, .null, .int 0, .null, .null, .null, .null, .null, .int 0, .null]
abbrev oM12 (N : Nat) : List Value := [.int 0, .ref N, .int 0, .int 0, .int 0, .int 0, .ref (N + 1), .ref (N + 2), .ref (N + 3), .ref (N + 4), .ref (N + 5), .ref (N + 6), .ref (N + 7), .ref (N + 8), .ref (N + 9), .ref (N + 10), .ref (N + 11), .ref (N + 12), .null, .null, .null, .null, .null, .null, .int 0, .int 0, .int 0, .int 0, .null, .null, .int 0, .null, .null, .null, .null, .null, .int 0, .null]
abbrev oM13 (N : Nat) : List Value := [.int 0, .ref N, .int 0, .int 0, .int 0, .int 0, .ref (N + 1), .ref (N + 2), .ref (N + 3), .ref (N + 4), .ref (N + 5), .ref (N + 6), .ref (N + 7), .ref (N + 8), .ref (N + 9), .ref (N + 10), .ref (N + 11), .ref (N + 12), .ref (N + 13), .null, .null, .null, .null, .null, .int 0, .int 0, .int 0, .int 0, .null, .null, .int 0, .null, .null, .null, .null, .null, .int 0, .null]
abbrev oM14 (N : Nat) : List Value := [.int 0, .ref N, .int 0, .int 0, .int 0, .int 0, .ref (N + 1), .ref (N + 2), .ref (N + 3), .ref (N + 4), .ref (N + 5), .ref (N + 6), .ref (N + 7), .ref (N + 8), .ref (N + 9), .ref (N + 10), .ref (N + 11), .ref (N + 12), .ref (N + 13), .ref (N + 14), .null, .null, .null, .null, .int 0, .int 0, .int 0, .int 0, .null, .null, .int 0, .null, .null, .null, .null, .null, .int 0, .null]
abbrev oM15 (N : Nat) : List Value := [.int 0, .ref N, .int 0, .int 0, .int 0, .int 0, .ref (N + 1), .ref (N + 2), .ref (N + 3), .ref (N + 4), .ref (N + 5), .ref (N + 6), .ref (N + 7), .ref (N + 8), .ref (N + 9), .ref (N + 10), .ref (N + 11), .ref (N + 12), .ref (N + 13), .ref (N + 14), .ref (N + 15), .null, .null, .null, .int 0, .int 0, .int 0, .int 0, .null, .null, .int 0, .null, .null, .null, .null, .null, .int 0, .null]
abbrev oM16 (N : Nat) : List Value := [.int 0, .ref N, .int 0, .int 0, .int 0, .int 0, .ref (N + 1), .ref (N + 2), .ref (N + 3), .ref (N + 4), .ref (N + 5), .ref (N + 6), .ref (N + 7), .ref (N + 8), .ref (N + 9), .ref (N + 10), .ref (N + 11), .ref (N + 12), .ref (N + 13), .ref (N + 14), .ref (N + 15), .ref (N + 16), .null, .null, .int 0, .int 0, .int 0, .int 0, .null, .null, .int 0, .null, .null, .null, .null, .null, .int 0, .null]
abbrev oM17 (N : Nat) : List Value := [.int 0, .ref N, .int 0, .int 0, .int 0, .int 0, .ref (N + 1), .ref (N + 2), .ref (N + 3), .ref (N + 4), .ref (N + 5), .ref (N + 6), .ref (N + 7), .ref (N + 8), .ref (N + 9), .ref (N + 10), .ref (N + 11), .ref (N + 12), .ref (N + 13), .ref (N + 14), .ref (N + 15), .ref (N + 16), .ref (N + 17), .null, .int 0, .int 0, .int 0, .int 0, .null, .null, .int 0, .null, .null, .null, .null, .null, .int 0, .null]
abbrev oM18 (N : Nat) : List Value := [.int 0, .ref N, .int 0, .int 0, .int 0, .int 0, .ref (N + 1), .ref (N + 2), .ref (N + 3), .ref (N + 4), .ref (N + 5), .ref (N + 6), .ref (N + 7), .ref (N + 8), .ref (N + 9), .ref (N + 10), .ref (N + 11), .ref (N + 12), .ref (N + 13), .ref (N + 14), .ref (N + 15), .ref (N + 16), .ref (N + 17), .ref (N + 18), .int 0, .int 0, .int 0, .int 0, .null, .null, .int 0, .null, .null, .null, .null, .null, .int 0, .null]
abbrev oM19 (N : Nat) : List Value := [.int 0, .ref N, .int 0, .int 0, .int 0, .int 0, .ref (N + 1), .ref (N + 2), .ref (N + 3), .ref (N + 4), .ref (N + 5), .ref (N + 6), .ref (N + 7), .ref (N + 8), .ref (N + 9), .ref (N + 10), .ref (N + 11), .ref (N + 12), .ref (N + 13), .ref (N + 14), .ref (N + 15), .ref (N + 16), .ref (N + 17), .ref (N + 18), .int 0, .int 0, .int 0, .int 0, .ref (N + 19), .null, .int 0, .null, .null, .null, .null, .null, .int 0, .null]
abbrev oM20 (N : Nat) : List Value := [.int 0, .ref N, .int 0, .int 0, .int 0, .int 0, .ref (N + 1), .ref (N + 2), .ref (N + 3), .ref (N + 4), .ref (N + 5), .ref (N + 6), .ref (N + 7), .ref (N + 8), .ref (N + 9), .ref (N + 10), .ref (N + 11), .ref (N + 12), .ref (N + 13), .ref (N + 14), .ref (N + 15), .ref (N + 16), .ref (N + 17), .ref (N + 18), .int 0, .int 0, .int 0, .int 0, .ref (N + 19), .ref (N + 20), .int 0, .null, .null, .null, .null, .null, .int 0, .null]
abbrev oM21 (N : Nat) : List Value := [.int 0, .ref N, .int 0, .int 0, .int 0, .int 0, .ref (N + 1), .ref (N + 2), .ref (N + 3), .ref (N + 4), .ref (N + 5), .ref (N + 6), .ref (N + 7), .ref (N + 8), .ref (N + 9), .ref (N + 10), .ref (N + 11), .ref (N + 12), .ref (N + 13), .ref (N + 14), .ref (N + 15), .ref (N + 16), .ref (N + 17), .ref (N + 18), .int 0, .int 0, .int 0, .int 0, .ref (N + 19), .ref (N + 20), .int 0, .ref (N + 21), .null, .null, .null, .null, .int 0, .null]
abbrev oM22 (N : Nat) : List Value := [.int 0, .ref N, .int 0, .int 0, .int 0, .int 0, .ref (N + 1), .ref (N + 2), .ref (N + 3), .ref (N + 4), .ref (N + 5), .ref (N + 6), .ref (N + 7), .ref (N + 8), .ref (N + 9), .ref (N + 10), .ref (N + 11), .ref (N + 12), .ref (N + 13), .ref (N + 14), .ref (N + 15), .ref (N + 16), .ref (N + 17), .ref (N + 18), .int 0, .int 0, .int 0, .int 0, .ref (N + 19), .ref (N + 20), .int 0, .ref (N + 21), .ref (N + 22), .null, .null, .null, .int 0, .null]
abbrev oM23 (N : Nat) : List Value := [.int 0, .ref N, .int 0, .int 0, .int 0, .int 0, .ref (N + 1), .ref (N + 2), .ref (N + 3), .ref (N + 4), .ref (N + 5), .ref (N + 6), .ref (N + 7), .ref (N + 8), .ref (N + 9), .ref (N + 10), .ref (N + 11), .ref (N + 12), .ref (N + 13), .ref (N + 14), .ref (N + 15), .ref (N + 16), .ref (N + 17), .ref (N + 18), .int 0, .int 0, .int 0, .int 0, .ref (N + 19), .ref (N + 20), .int 0, .ref (N + 21), .ref (N + 22), .ref (N + 23), .null, .null, .int 0, .null]
abbrev oM24 (N : Nat) : List Value := [.int 0, .ref N, .int 0, .int 0, .int 0, .int 0, .ref (N + 1), .ref (N + 2), .ref (N + 3), .ref (N + 4), .ref (N + 5), .ref (N + 6), .ref (N + 7), .ref (N + 8), .ref (N + 9), .ref (N + 10), .ref (N + 11), .ref (N + 12), .ref (N + 13), .ref (N + 14), .ref (N + 15), .ref (N + 16), .ref (N + 17), .ref (N + 18), .int 0, .int 0, .int 0, .int 0, .ref (N + 19), .ref (N + 20), .int 0, .ref (N + 21), .ref (N + 22), .ref (N + 23), .ref (N + 24), .null, .int 0, .null]
abbrev oM25 (N : Nat) : List Value := [.int 0, .ref N, .int 0, .int 0, .int 0, .int 0, .ref (N + 1), .ref (N + 2), .ref (N + 3), .ref (N + 4), .ref (N + 5), .ref (N + 6), .ref (N + 7), .ref (N + 8), .ref (N + 9), .ref (N + 10), .ref (N + 11), .ref (N + 12), .ref (N + 13), .ref (N + 14), .ref (N + 15), .ref (N + 16), .ref (N + 17), .ref (N + 18), .int 0, .int 0, .int 0, .int 0, .ref (N + 19), .ref (N + 20), .int 0, .ref (N + 21), .ref (N + 22), .ref (N + 23), .ref (N + 24), .ref (N + 25), .int 0, .null]
abbrev oM26 (N : Nat) : List Value := [.int 0, .ref N, .int 0, .int 0, .int 0, .int 0, .ref (N + 1), .ref (N + 2), .ref (N + 3), .ref (N + 4), .ref (N + 5), .ref (N + 6), .ref (N + 7), .ref (N + 8), .ref (N + 9), .ref (N + 10), .ref (N + 11), .ref (N + 12), .ref (N + 13), .ref (N + 14), .ref (N + 15), .ref (N + 16), .ref (N + 17), .ref (N + 18), .int 0, .int 0, .int 0, .int 0, .ref (N + 19), .ref (N + 20), .int 0, .ref (N + 21), .ref (N + 22), .ref (N + 23), .ref (N + 24), .ref (N + 25), .int 0, .ref (N + 26)]
section
variable {p : Program} {l : Launch} {e : Env} {R : Room} {s : State} {m : MethodId} {args : Array Value} {below : List Frame} {meth : Method} {c : Code} {cells slots : Nat} {Q : State → Prop} {D : va_G} {cl : List vw_C} {b0 nL N : Nat} {f : Nat → va_E} {pc : Nat} {lv : List (Nat × Value)} {st : List Value}
theorem zW.gen2 (P : Nat → (Nat → va_E) → Prop) (hP : P N f) (kk : ∀ N' f', P N' f' → zW p l e R s m args below meth c D cl b0 nL cells slots Q N' f' pc lv st) : zW p l e R s m args below meth c D cl b0 nL cells slots Q N f pc lv st := kk N f hP
end
section
variable {l : Launch} {D : va_G} {ck : Nat → ClassId} {ad : (Nat → Nat) × (Nat → Nat)} {b0 N : Nat} {f : Nat → va_E}
set_option maxHeartbeats 4000000 in
set_option maxRecDepth 100000 in
theorem c_Mod_init0 {a : Nat} (hP : zP b0 N f [(a, .inr (8, df_Mod))]) : zK l D ck ad b0 y_Mod_init prog_10_method_1_code 1 (none) 1 27 7912 [.ref a] N f (fun r N' f' => r = none ∧ N' = N + 27 ∧ zP b0 (N + 27) f' [(a, .inr (8, oM26 N)), (N, .inl (ck 0, 200, .inl (fun _ => 0))), ((N + 1), .inl (ck 0, 800, .inl (fun _ => 0))), ((N + 2), .inl (ck 0, 800, .inl (fun _ => 0))), ((N + 3), .inl (ck 0, 800, .inl (fun _ => 0))), ((N + 4), .inl (ck 0, 800, .inl (fun _ => 0))), ((N + 5), .inl (ck 0, 20, .inl (fun _ => 0))), ((N + 6), .inl (ck 0, 20, .inl (fun _ => 0))), ((N + 7), .inl (ck 1, 20, .inl (fun _ => 0))), ((N + 8), .inl (ck 0, 20, .inl (fun _ => 0))), ((N + 9), .inl (ck 0, 20, .inl (fun _ => 0))), ((N + 10), .inl (ck 1, 20, .inl (fun _ => 0))), ((N + 11), .inl (ck 1, 20, .inl (fun _ => 0))), ((N + 12), .inl (ck 1, 20, .inl (fun _ => 0))), ((N + 13), .inl (ck 0, 200, .inl (fun _ => 0))), ((N + 14), .inl (ck 1, 200, .inl (fun _ => 0))), ((N + 15), .inl (ck 0, 40, .inl (fun _ => 0))), ((N + 16), .inl (ck 0, 40, .inl (fun _ => 0))), ((N + 17), .inl (ck 0, 40, .inl (fun _ => 0))), ((N + 18), .inl (ck 0, 40, .inl (fun _ => 0))), ((N + 19), .inl (ck 0, 64, .inl (fun _ => 0))), ((N + 20), .inl (ck 0, 64, .inl (fun _ => 0))), ((N + 21), .inl (ck 2, 400, .inr (.inl (fun _ => 0)))), ((N + 22), .inl (ck 1, 400, .inl (fun _ => 0))), ((N + 23), .inl (ck 0, 400, .inl (fun _ => 0))), ((N + 24), .inl (ck 0, 64, .inl (fun _ => 0))), ((N + 25), .inl (ck 0, 2000, .inl (fun _ => 0))), ((N + 26), .inl (ck 0, 400, .inl (fun _ => 0)))] ∧ zF N f f' [a]) := by
  refine zM.of zG_w (by decide) (Nat.le_of_ble_eq_true rfl) ?_
  intro zp ze zst zm zar zbe zme zc X hnm hb0
  have hF : zF N f f [a] := zF.rf
  refine z_aload_n X d_Mod_init_0 rfl ?_
  refine z_objInit X d_Mod_init_1 ml_Mod_1 im_Object_init mc_objInit (Nat.le_of_ble_eq_true rfl) (Nat.le_of_ble_eq_true rfl) ?_
  refine z_aload_n X d_Mod_init_4 rfl ?_
  refine z_sipush X d_Mod_init_5 (v := 200) (by decide) ?_
  refine z_newaiP X rfl d_Mod_init_8 ac_int (t0 := 0) rfl (by decide) rfl (Nat.le_of_ble_eq_true rfl) (Nat.le_of_ble_eq_true rfl) (Nat.le_of_ble_eq_true rfl) hP (by omega) (fun hP => ?_)
  have hF := hF.by2 (by omega) hP
  refine z_putFP X t_Mod ty_Mod n_Mod d_Mod_init_10 hP 0 rfl cl_Mod in_Mod 1 (by decide) fl_Mod_7 rfl rfl hnm rfl rfl rfl rfl (Nat.le_of_ble_eq_true rfl) (fun hP => ?_)
  have hF := hF.by (by simp) hP
  refine zW.gen2 (fun N' f' => N' = N + 1 ∧ zP b0 (N + 1) f' [(a, .inr (8, oM0 N)), (N, .inl (ck 0, 200, .inl (fun _ => 0)))] ∧ zF N f f' [a]) ⟨rfl, hP, hF⟩ ?_
  clear hP hF
  rintro _ f1 ⟨rfl, hP, hF⟩
  refine z_aload_n X d_Mod_init_13 rfl ?_
  refine z_sipush X d_Mod_init_14 (v := 800) (by decide) ?_
  refine z_newaiP X rfl d_Mod_init_17 ac_int (t0 := 0) rfl (by decide) rfl (Nat.le_of_ble_eq_true rfl) (Nat.le_of_ble_eq_true rfl) (Nat.le_of_ble_eq_true rfl) hP (by omega) (fun hP => ?_)
  have hF := hF.by2 (by omega) hP
  refine z_putFP X t_Mod ty_Mod n_Mod d_Mod_init_19 hP 0 rfl cl_Mod in_Mod 6 (by decide) fl_Mod_13 rfl rfl hnm rfl rfl rfl rfl (Nat.le_of_ble_eq_true rfl) (fun hP => ?_)
  have hF := hF.by (by simp) hP
  refine zW.gen2 (fun N' f' => N' = N + 2 ∧ zP b0 (N + 2) f' [(a, .inr (8, oM1 N)), (N, .inl (ck 0, 200, .inl (fun _ => 0))), ((N + 1), .inl (ck 0, 800, .inl (fun _ => 0)))] ∧ zF N f f' [a]) ⟨rfl, hP, hF⟩ ?_
  clear hP hF
  rintro _ f2 ⟨rfl, hP, hF⟩
  refine z_aload_n X d_Mod_init_22 rfl ?_
  refine z_sipush X d_Mod_init_23 (v := 800) (by decide) ?_
  refine z_newaiP X rfl d_Mod_init_26 ac_int (t0 := 0) rfl (by decide) rfl (Nat.le_of_ble_eq_true rfl) (Nat.le_of_ble_eq_true rfl) (Nat.le_of_ble_eq_true rfl) hP (by omega) (fun hP => ?_)
  have hF := hF.by2 (by omega) hP
  refine z_putFP X t_Mod ty_Mod n_Mod d_Mod_init_28 hP 0 rfl cl_Mod in_Mod 7 (by decide) fl_Mod_16 rfl rfl hnm rfl rfl rfl rfl (Nat.le_of_ble_eq_true rfl) (fun hP => ?_)
  have hF := hF.by (by simp) hP
  refine zW.gen2 (fun N' f' => N' = N + 3 ∧ zP b0 (N + 3) f' [(a, .inr (8, oM2 N)), (N, .inl (ck 0, 200, .inl (fun _ => 0))), ((N + 1), .inl (ck 0, 800, .inl (fun _ => 0))), ((N + 2), .inl (ck 0, 800, .inl (fun _ => 0)))] ∧ zF N f f' [a]) ⟨rfl, hP, hF⟩ ?_
  clear hP hF
  rintro _ f3 ⟨rfl, hP, hF⟩
  refine z_aload_n X d_Mod_init_31 rfl ?_
  refine z_sipush X d_Mod_init_32 (v := 800) (by decide) ?_
  refine z_newaiP X rfl d_Mod_init_35 ac_int (t0 := 0) rfl (by decide) rfl (Nat.le_of_ble_eq_true rfl) (Nat.le_of_ble_eq_true rfl) (Nat.le_of_ble_eq_true rfl) hP (by omega) (fun hP => ?_)
  have hF := hF.by2 (by omega) hP
  refine z_putFP X t_Mod ty_Mod n_Mod d_Mod_init_37 hP 0 rfl cl_Mod in_Mod 8 (by decide) fl_Mod_19 rfl rfl hnm rfl rfl rfl rfl (Nat.le_of_ble_eq_true rfl) (fun hP => ?_)
  have hF := hF.by (by simp) hP
  refine zW.gen2 (fun N' f' => N' = N + 4 ∧ zP b0 (N + 4) f' [(a, .inr (8, oM3 N)), (N, .inl (ck 0, 200, .inl (fun _ => 0))), ((N + 1), .inl (ck 0, 800, .inl (fun _ => 0))), ((N + 2), .inl (ck 0, 800, .inl (fun _ => 0))), ((N + 3), .inl (ck 0, 800, .inl (fun _ => 0)))] ∧ zF N f f' [a]) ⟨rfl, hP, hF⟩ ?_
  clear hP hF
  rintro _ f4 ⟨rfl, hP, hF⟩
  refine z_aload_n X d_Mod_init_40 rfl ?_
  refine z_sipush X d_Mod_init_41 (v := 800) (by decide) ?_
  refine z_newaiP X rfl d_Mod_init_44 ac_int (t0 := 0) rfl (by decide) rfl (Nat.le_of_ble_eq_true rfl) (Nat.le_of_ble_eq_true rfl) (Nat.le_of_ble_eq_true rfl) hP (by omega) (fun hP => ?_)
  have hF := hF.by2 (by omega) hP
  refine z_putFP X t_Mod ty_Mod n_Mod d_Mod_init_46 hP 0 rfl cl_Mod in_Mod 9 (by decide) fl_Mod_22 rfl rfl hnm rfl rfl rfl rfl (Nat.le_of_ble_eq_true rfl) (fun hP => ?_)
  have hF := hF.by (by simp) hP
  refine zW.gen2 (fun N' f' => N' = N + 5 ∧ zP b0 (N + 5) f' [(a, .inr (8, oM4 N)), (N, .inl (ck 0, 200, .inl (fun _ => 0))), ((N + 1), .inl (ck 0, 800, .inl (fun _ => 0))), ((N + 2), .inl (ck 0, 800, .inl (fun _ => 0))), ((N + 3), .inl (ck 0, 800, .inl (fun _ => 0))), ((N + 4), .inl (ck 0, 800, .inl (fun _ => 0)))] ∧ zF N f f' [a]) ⟨rfl, hP, hF⟩ ?_
  clear hP hF
  rintro _ f5 ⟨rfl, hP, hF⟩
  refine z_aload_n X d_Mod_init_49 rfl ?_
  refine z_bipush X d_Mod_init_50 (v := 20) (by decide) ?_
  refine z_newaiP X rfl d_Mod_init_52 ac_int (t0 := 0) rfl (by decide) rfl (Nat.le_of_ble_eq_true rfl) (Nat.le_of_ble_eq_true rfl) (Nat.le_of_ble_eq_true rfl) hP (by omega) (fun hP => ?_)
  have hF := hF.by2 (by omega) hP
  refine z_putFP X t_Mod ty_Mod n_Mod d_Mod_init_54 hP 0 rfl cl_Mod in_Mod 10 (by decide) fl_Mod_25 rfl rfl hnm rfl rfl rfl rfl (Nat.le_of_ble_eq_true rfl) (fun hP => ?_)
  have hF := hF.by (by simp) hP
  refine zW.gen2 (fun N' f' => N' = N + 6 ∧ zP b0 (N + 6) f' [(a, .inr (8, oM5 N)), (N, .inl (ck 0, 200, .inl (fun _ => 0))), ((N + 1), .inl (ck 0, 800, .inl (fun _ => 0))), ((N + 2), .inl (ck 0, 800, .inl (fun _ => 0))), ((N + 3), .inl (ck 0, 800, .inl (fun _ => 0))), ((N + 4), .inl (ck 0, 800, .inl (fun _ => 0))), ((N + 5), .inl (ck 0, 20, .inl (fun _ => 0)))] ∧ zF N f f' [a]) ⟨rfl, hP, hF⟩ ?_
  clear hP hF
  rintro _ f6 ⟨rfl, hP, hF⟩
  refine z_aload_n X d_Mod_init_57 rfl ?_
  refine z_bipush X d_Mod_init_58 (v := 20) (by decide) ?_
  refine z_newaiP X rfl d_Mod_init_60 ac_int (t0 := 0) rfl (by decide) rfl (Nat.le_of_ble_eq_true rfl) (Nat.le_of_ble_eq_true rfl) (Nat.le_of_ble_eq_true rfl) hP (by omega) (fun hP => ?_)
  have hF := hF.by2 (by omega) hP
  refine z_putFP X t_Mod ty_Mod n_Mod d_Mod_init_62 hP 0 rfl cl_Mod in_Mod 11 (by decide) fl_Mod_28 rfl rfl hnm rfl rfl rfl rfl (Nat.le_of_ble_eq_true rfl) (fun hP => ?_)
  have hF := hF.by (by simp) hP
  refine zW.gen2 (fun N' f' => N' = N + 7 ∧ zP b0 (N + 7) f' [(a, .inr (8, oM6 N)), (N, .inl (ck 0, 200, .inl (fun _ => 0))), ((N + 1), .inl (ck 0, 800, .inl (fun _ => 0))), ((N + 2), .inl (ck 0, 800, .inl (fun _ => 0))), ((N + 3), .inl (ck 0, 800, .inl (fun _ => 0))), ((N + 4), .inl (ck 0, 800, .inl (fun _ => 0))), ((N + 5), .inl (ck 0, 20, .inl (fun _ => 0))), ((N + 6), .inl (ck 0, 20, .inl (fun _ => 0)))] ∧ zF N f f' [a]) ⟨rfl, hP, hF⟩ ?_
  clear hP hF
  rintro _ f7 ⟨rfl, hP, hF⟩
  refine z_aload_n X d_Mod_init_65 rfl ?_
  refine z_bipush X d_Mod_init_66 (v := 20) (by decide) ?_
  refine z_newazP X rfl d_Mod_init_68 ac_boolean (t0 := 1) rfl (by decide) rfl (Nat.le_of_ble_eq_true rfl) (Nat.le_of_ble_eq_true rfl) (Nat.le_of_ble_eq_true rfl) hP (by omega) (fun hP => ?_)
  have hF := hF.by2 (by omega) hP
  refine z_putFP X t_Mod ty_Mod n_Mod d_Mod_init_70 hP 0 rfl cl_Mod in_Mod 12 (by decide) fl_Mod_31 rfl rfl hnm rfl rfl rfl rfl (Nat.le_of_ble_eq_true rfl) (fun hP => ?_)
  have hF := hF.by (by simp) hP
  refine zW.gen2 (fun N' f' => N' = N + 8 ∧ zP b0 (N + 8) f' [(a, .inr (8, oM7 N)), (N, .inl (ck 0, 200, .inl (fun _ => 0))), ((N + 1), .inl (ck 0, 800, .inl (fun _ => 0))), ((N + 2), .inl (ck 0, 800, .inl (fun _ => 0))), ((N + 3), .inl (ck 0, 800, .inl (fun _ => 0))), ((N + 4), .inl (ck 0, 800, .inl (fun _ => 0))), ((N + 5), .inl (ck 0, 20, .inl (fun _ => 0))), ((N + 6), .inl (ck 0, 20, .inl (fun _ => 0))), ((N + 7), .inl (ck 1, 20, .inl (fun _ => 0)))] ∧ zF N f f' [a]) ⟨rfl, hP, hF⟩ ?_
  clear hP hF
  rintro _ f8 ⟨rfl, hP, hF⟩
  refine z_aload_n X d_Mod_init_73 rfl ?_
  refine z_bipush X d_Mod_init_74 (v := 20) (by decide) ?_
  refine z_newaiP X rfl d_Mod_init_76 ac_int (t0 := 0) rfl (by decide) rfl (Nat.le_of_ble_eq_true rfl) (Nat.le_of_ble_eq_true rfl) (Nat.le_of_ble_eq_true rfl) hP (by omega) (fun hP => ?_)
  have hF := hF.by2 (by omega) hP
  refine z_putFP X t_Mod ty_Mod n_Mod d_Mod_init_78 hP 0 rfl cl_Mod in_Mod 13 (by decide) fl_Mod_35 rfl rfl hnm rfl rfl rfl rfl (Nat.le_of_ble_eq_true rfl) (fun hP => ?_)
  have hF := hF.by (by simp) hP
  refine zW.gen2 (fun N' f' => N' = N + 9 ∧ zP b0 (N + 9) f' [(a, .inr (8, oM8 N)), (N, .inl (ck 0, 200, .inl (fun _ => 0))), ((N + 1), .inl (ck 0, 800, .inl (fun _ => 0))), ((N + 2), .inl (ck 0, 800, .inl (fun _ => 0))), ((N + 3), .inl (ck 0, 800, .inl (fun _ => 0))), ((N + 4), .inl (ck 0, 800, .inl (fun _ => 0))), ((N + 5), .inl (ck 0, 20, .inl (fun _ => 0))), ((N + 6), .inl (ck 0, 20, .inl (fun _ => 0))), ((N + 7), .inl (ck 1, 20, .inl (fun _ => 0))), ((N + 8), .inl (ck 0, 20, .inl (fun _ => 0)))] ∧ zF N f f' [a]) ⟨rfl, hP, hF⟩ ?_
  clear hP hF
  rintro _ f9 ⟨rfl, hP, hF⟩
  refine z_aload_n X d_Mod_init_81 rfl ?_
  refine z_bipush X d_Mod_init_82 (v := 20) (by decide) ?_
  refine z_newaiP X rfl d_Mod_init_84 ac_int (t0 := 0) rfl (by decide) rfl (Nat.le_of_ble_eq_true rfl) (Nat.le_of_ble_eq_true rfl) (Nat.le_of_ble_eq_true rfl) hP (by omega) (fun hP => ?_)
  have hF := hF.by2 (by omega) hP
  refine z_putFP X t_Mod ty_Mod n_Mod d_Mod_init_86 hP 0 rfl cl_Mod in_Mod 14 (by decide) fl_Mod_38 rfl rfl hnm rfl rfl rfl rfl (Nat.le_of_ble_eq_true rfl) (fun hP => ?_)
  have hF := hF.by (by simp) hP
  refine zW.gen2 (fun N' f' => N' = N + 10 ∧ zP b0 (N + 10) f' [(a, .inr (8, oM9 N)), (N, .inl (ck 0, 200, .inl (fun _ => 0))), ((N + 1), .inl (ck 0, 800, .inl (fun _ => 0))), ((N + 2), .inl (ck 0, 800, .inl (fun _ => 0))), ((N + 3), .inl (ck 0, 800, .inl (fun _ => 0))), ((N + 4), .inl (ck 0, 800, .inl (fun _ => 0))), ((N + 5), .inl (ck 0, 20, .inl (fun _ => 0))), ((N + 6), .inl (ck 0, 20, .inl (fun _ => 0))), ((N + 7), .inl (ck 1, 20, .inl (fun _ => 0))), ((N + 8), .inl (ck 0, 20, .inl (fun _ => 0))), ((N + 9), .inl (ck 0, 20, .inl (fun _ => 0)))] ∧ zF N f f' [a]) ⟨rfl, hP, hF⟩ ?_
  clear hP hF
  rintro _ f10 ⟨rfl, hP, hF⟩
  refine z_aload_n X d_Mod_init_89 rfl ?_
  refine z_bipush X d_Mod_init_90 (v := 20) (by decide) ?_
  refine z_newazP X rfl d_Mod_init_92 ac_boolean (t0 := 1) rfl (by decide) rfl (Nat.le_of_ble_eq_true rfl) (Nat.le_of_ble_eq_true rfl) (Nat.le_of_ble_eq_true rfl) hP (by omega) (fun hP => ?_)
  have hF := hF.by2 (by omega) hP
  refine z_putFP X t_Mod ty_Mod n_Mod d_Mod_init_94 hP 0 rfl cl_Mod in_Mod 15 (by decide) fl_Mod_41 rfl rfl hnm rfl rfl rfl rfl (Nat.le_of_ble_eq_true rfl) (fun hP => ?_)
  have hF := hF.by (by simp) hP
  refine zW.gen2 (fun N' f' => N' = N + 11 ∧ zP b0 (N + 11) f' [(a, .inr (8, oM10 N)), (N, .inl (ck 0, 200, .inl (fun _ => 0))), ((N + 1), .inl (ck 0, 800, .inl (fun _ => 0))), ((N + 2), .inl (ck 0, 800, .inl (fun _ => 0))), ((N + 3), .inl (ck 0, 800, .inl (fun _ => 0))), ((N + 4), .inl (ck 0, 800, .inl (fun _ => 0))), ((N + 5), .inl (ck 0, 20, .inl (fun _ => 0))), ((N + 6), .inl (ck 0, 20, .inl (fun _ => 0))), ((N + 7), .inl (ck 1, 20, .inl (fun _ => 0))), ((N + 8), .inl (ck 0, 20, .inl (fun _ => 0))), ((N + 9), .inl (ck 0, 20, .inl (fun _ => 0))), ((N + 10), .inl (ck 1, 20, .inl (fun _ => 0)))] ∧ zF N f f' [a]) ⟨rfl, hP, hF⟩ ?_
  clear hP hF
  rintro _ f11 ⟨rfl, hP, hF⟩
  refine z_aload_n X d_Mod_init_97 rfl ?_
  refine z_bipush X d_Mod_init_98 (v := 20) (by decide) ?_
  refine z_newazP X rfl d_Mod_init_100 ac_boolean (t0 := 1) rfl (by decide) rfl (Nat.le_of_ble_eq_true rfl) (Nat.le_of_ble_eq_true rfl) (Nat.le_of_ble_eq_true rfl) hP (by omega) (fun hP => ?_)
  have hF := hF.by2 (by omega) hP
  refine z_putFP X t_Mod ty_Mod n_Mod d_Mod_init_102 hP 0 rfl cl_Mod in_Mod 16 (by decide) fl_Mod_44 rfl rfl hnm rfl rfl rfl rfl (Nat.le_of_ble_eq_true rfl) (fun hP => ?_)
  have hF := hF.by (by simp) hP
  refine zW.gen2 (fun N' f' => N' = N + 12 ∧ zP b0 (N + 12) f' [(a, .inr (8, oM11 N)), (N, .inl (ck 0, 200, .inl (fun _ => 0))), ((N + 1), .inl (ck 0, 800, .inl (fun _ => 0))), ((N + 2), .inl (ck 0, 800, .inl (fun _ => 0))), ((N + 3), .inl (ck 0, 800, .inl (fun _ => 0))), ((N + 4), .inl (ck 0, 800, .inl (fun _ => 0))), ((N + 5), .inl (ck 0, 20, .inl (fun _ => 0))), ((N + 6), .inl (ck 0, 20, .inl (fun _ => 0))), ((N + 7), .inl (ck 1, 20, .inl (fun _ => 0))), ((N + 8), .inl (ck 0, 20, .inl (fun _ => 0))), ((N + 9), .inl (ck 0, 20, .inl (fun _ => 0))), ((N + 10), .inl (ck 1, 20, .inl (fun _ => 0))), ((N + 11), .inl (ck 1, 20, .inl (fun _ => 0)))] ∧ zF N f f' [a]) ⟨rfl, hP, hF⟩ ?_
  clear hP hF
  rintro _ f12 ⟨rfl, hP, hF⟩
  refine z_aload_n X d_Mod_init_105 rfl ?_
  refine z_bipush X d_Mod_init_106 (v := 20) (by decide) ?_
  refine z_newazP X rfl d_Mod_init_108 ac_boolean (t0 := 1) rfl (by decide) rfl (Nat.le_of_ble_eq_true rfl) (Nat.le_of_ble_eq_true rfl) (Nat.le_of_ble_eq_true rfl) hP (by omega) (fun hP => ?_)
  have hF := hF.by2 (by omega) hP
  refine z_putFP X t_Mod ty_Mod n_Mod d_Mod_init_110 hP 0 rfl cl_Mod in_Mod 17 (by decide) fl_Mod_47 rfl rfl hnm rfl rfl rfl rfl (Nat.le_of_ble_eq_true rfl) (fun hP => ?_)
  have hF := hF.by (by simp) hP
  refine zW.gen2 (fun N' f' => N' = N + 13 ∧ zP b0 (N + 13) f' [(a, .inr (8, oM12 N)), (N, .inl (ck 0, 200, .inl (fun _ => 0))), ((N + 1), .inl (ck 0, 800, .inl (fun _ => 0))), ((N + 2), .inl (ck 0, 800, .inl (fun _ => 0))), ((N + 3), .inl (ck 0, 800, .inl (fun _ => 0))), ((N + 4), .inl (ck 0, 800, .inl (fun _ => 0))), ((N + 5), .inl (ck 0, 20, .inl (fun _ => 0))), ((N + 6), .inl (ck 0, 20, .inl (fun _ => 0))), ((N + 7), .inl (ck 1, 20, .inl (fun _ => 0))), ((N + 8), .inl (ck 0, 20, .inl (fun _ => 0))), ((N + 9), .inl (ck 0, 20, .inl (fun _ => 0))), ((N + 10), .inl (ck 1, 20, .inl (fun _ => 0))), ((N + 11), .inl (ck 1, 20, .inl (fun _ => 0))), ((N + 12), .inl (ck 1, 20, .inl (fun _ => 0)))] ∧ zF N f f' [a]) ⟨rfl, hP, hF⟩ ?_
  clear hP hF
  rintro _ f13 ⟨rfl, hP, hF⟩
  refine z_aload_n X d_Mod_init_113 rfl ?_
  refine z_sipush X d_Mod_init_114 (v := 200) (by decide) ?_
  refine z_newaiP X rfl d_Mod_init_117 ac_int (t0 := 0) rfl (by decide) rfl (Nat.le_of_ble_eq_true rfl) (Nat.le_of_ble_eq_true rfl) (Nat.le_of_ble_eq_true rfl) hP (by omega) (fun hP => ?_)
  have hF := hF.by2 (by omega) hP
  refine z_putFP X t_Mod ty_Mod n_Mod d_Mod_init_119 hP 0 rfl cl_Mod in_Mod 18 (by decide) fl_Mod_50 rfl rfl hnm rfl rfl rfl rfl (Nat.le_of_ble_eq_true rfl) (fun hP => ?_)
  have hF := hF.by (by simp) hP
  refine zW.gen2 (fun N' f' => N' = N + 14 ∧ zP b0 (N + 14) f' [(a, .inr (8, oM13 N)), (N, .inl (ck 0, 200, .inl (fun _ => 0))), ((N + 1), .inl (ck 0, 800, .inl (fun _ => 0))), ((N + 2), .inl (ck 0, 800, .inl (fun _ => 0))), ((N + 3), .inl (ck 0, 800, .inl (fun _ => 0))), ((N + 4), .inl (ck 0, 800, .inl (fun _ => 0))), ((N + 5), .inl (ck 0, 20, .inl (fun _ => 0))), ((N + 6), .inl (ck 0, 20, .inl (fun _ => 0))), ((N + 7), .inl (ck 1, 20, .inl (fun _ => 0))), ((N + 8), .inl (ck 0, 20, .inl (fun _ => 0))), ((N + 9), .inl (ck 0, 20, .inl (fun _ => 0))), ((N + 10), .inl (ck 1, 20, .inl (fun _ => 0))), ((N + 11), .inl (ck 1, 20, .inl (fun _ => 0))), ((N + 12), .inl (ck 1, 20, .inl (fun _ => 0))), ((N + 13), .inl (ck 0, 200, .inl (fun _ => 0)))] ∧ zF N f f' [a]) ⟨rfl, hP, hF⟩ ?_
  clear hP hF
  rintro _ f14 ⟨rfl, hP, hF⟩
  refine z_aload_n X d_Mod_init_122 rfl ?_
  refine z_sipush X d_Mod_init_123 (v := 200) (by decide) ?_
  refine z_newazP X rfl d_Mod_init_126 ac_boolean (t0 := 1) rfl (by decide) rfl (Nat.le_of_ble_eq_true rfl) (Nat.le_of_ble_eq_true rfl) (Nat.le_of_ble_eq_true rfl) hP (by omega) (fun hP => ?_)
  have hF := hF.by2 (by omega) hP
  refine z_putFP X t_Mod ty_Mod n_Mod d_Mod_init_128 hP 0 rfl cl_Mod in_Mod 19 (by decide) fl_Mod_53 rfl rfl hnm rfl rfl rfl rfl (Nat.le_of_ble_eq_true rfl) (fun hP => ?_)
  have hF := hF.by (by simp) hP
  refine zW.gen2 (fun N' f' => N' = N + 15 ∧ zP b0 (N + 15) f' [(a, .inr (8, oM14 N)), (N, .inl (ck 0, 200, .inl (fun _ => 0))), ((N + 1), .inl (ck 0, 800, .inl (fun _ => 0))), ((N + 2), .inl (ck 0, 800, .inl (fun _ => 0))), ((N + 3), .inl (ck 0, 800, .inl (fun _ => 0))), ((N + 4), .inl (ck 0, 800, .inl (fun _ => 0))), ((N + 5), .inl (ck 0, 20, .inl (fun _ => 0))), ((N + 6), .inl (ck 0, 20, .inl (fun _ => 0))), ((N + 7), .inl (ck 1, 20, .inl (fun _ => 0))), ((N + 8), .inl (ck 0, 20, .inl (fun _ => 0))), ((N + 9), .inl (ck 0, 20, .inl (fun _ => 0))), ((N + 10), .inl (ck 1, 20, .inl (fun _ => 0))), ((N + 11), .inl (ck 1, 20, .inl (fun _ => 0))), ((N + 12), .inl (ck 1, 20, .inl (fun _ => 0))), ((N + 13), .inl (ck 0, 200, .inl (fun _ => 0))), ((N + 14), .inl (ck 1, 200, .inl (fun _ => 0)))] ∧ zF N f f' [a]) ⟨rfl, hP, hF⟩ ?_
  clear hP hF
  rintro _ f15 ⟨rfl, hP, hF⟩
  refine z_aload_n X d_Mod_init_131 rfl ?_
  refine z_bipush X d_Mod_init_132 (v := 40) (by decide) ?_
  refine z_newaiP X rfl d_Mod_init_134 ac_int (t0 := 0) rfl (by decide) rfl (Nat.le_of_ble_eq_true rfl) (Nat.le_of_ble_eq_true rfl) (Nat.le_of_ble_eq_true rfl) hP (by omega) (fun hP => ?_)
  have hF := hF.by2 (by omega) hP
  refine z_putFP X t_Mod ty_Mod n_Mod d_Mod_init_136 hP 0 rfl cl_Mod in_Mod 20 (by decide) fl_Mod_56 rfl rfl hnm rfl rfl rfl rfl (Nat.le_of_ble_eq_true rfl) (fun hP => ?_)
  have hF := hF.by (by simp) hP
  refine zW.gen2 (fun N' f' => N' = N + 16 ∧ zP b0 (N + 16) f' [(a, .inr (8, oM15 N)), (N, .inl (ck 0, 200, .inl (fun _ => 0))), ((N + 1), .inl (ck 0, 800, .inl (fun _ => 0))), ((N + 2), .inl (ck 0, 800, .inl (fun _ => 0))), ((N + 3), .inl (ck 0, 800, .inl (fun _ => 0))), ((N + 4), .inl (ck 0, 800, .inl (fun _ => 0))), ((N + 5), .inl (ck 0, 20, .inl (fun _ => 0))), ((N + 6), .inl (ck 0, 20, .inl (fun _ => 0))), ((N + 7), .inl (ck 1, 20, .inl (fun _ => 0))), ((N + 8), .inl (ck 0, 20, .inl (fun _ => 0))), ((N + 9), .inl (ck 0, 20, .inl (fun _ => 0))), ((N + 10), .inl (ck 1, 20, .inl (fun _ => 0))), ((N + 11), .inl (ck 1, 20, .inl (fun _ => 0))), ((N + 12), .inl (ck 1, 20, .inl (fun _ => 0))), ((N + 13), .inl (ck 0, 200, .inl (fun _ => 0))), ((N + 14), .inl (ck 1, 200, .inl (fun _ => 0))), ((N + 15), .inl (ck 0, 40, .inl (fun _ => 0)))] ∧ zF N f f' [a]) ⟨rfl, hP, hF⟩ ?_
  clear hP hF
  rintro _ f16 ⟨rfl, hP, hF⟩
  refine z_aload_n X d_Mod_init_139 rfl ?_
  refine z_bipush X d_Mod_init_140 (v := 40) (by decide) ?_
  refine z_newaiP X rfl d_Mod_init_142 ac_int (t0 := 0) rfl (by decide) rfl (Nat.le_of_ble_eq_true rfl) (Nat.le_of_ble_eq_true rfl) (Nat.le_of_ble_eq_true rfl) hP (by omega) (fun hP => ?_)
  have hF := hF.by2 (by omega) hP
  refine z_putFP X t_Mod ty_Mod n_Mod d_Mod_init_144 hP 0 rfl cl_Mod in_Mod 21 (by decide) fl_Mod_59 rfl rfl hnm rfl rfl rfl rfl (Nat.le_of_ble_eq_true rfl) (fun hP => ?_)
  have hF := hF.by (by simp) hP
  refine zW.gen2 (fun N' f' => N' = N + 17 ∧ zP b0 (N + 17) f' [(a, .inr (8, oM16 N)), (N, .inl (ck 0, 200, .inl (fun _ => 0))), ((N + 1), .inl (ck 0, 800, .inl (fun _ => 0))), ((N + 2), .inl (ck 0, 800, .inl (fun _ => 0))), ((N + 3), .inl (ck 0, 800, .inl (fun _ => 0))), ((N + 4), .inl (ck 0, 800, .inl (fun _ => 0))), ((N + 5), .inl (ck 0, 20, .inl (fun _ => 0))), ((N + 6), .inl (ck 0, 20, .inl (fun _ => 0))), ((N + 7), .inl (ck 1, 20, .inl (fun _ => 0))), ((N + 8), .inl (ck 0, 20, .inl (fun _ => 0))), ((N + 9), .inl (ck 0, 20, .inl (fun _ => 0))), ((N + 10), .inl (ck 1, 20, .inl (fun _ => 0))), ((N + 11), .inl (ck 1, 20, .inl (fun _ => 0))), ((N + 12), .inl (ck 1, 20, .inl (fun _ => 0))), ((N + 13), .inl (ck 0, 200, .inl (fun _ => 0))), ((N + 14), .inl (ck 1, 200, .inl (fun _ => 0))), ((N + 15), .inl (ck 0, 40, .inl (fun _ => 0))), ((N + 16), .inl (ck 0, 40, .inl (fun _ => 0)))] ∧ zF N f f' [a]) ⟨rfl, hP, hF⟩ ?_
  clear hP hF
  rintro _ f17 ⟨rfl, hP, hF⟩
  refine z_aload_n X d_Mod_init_147 rfl ?_
  refine z_bipush X d_Mod_init_148 (v := 40) (by decide) ?_
  refine z_newaiP X rfl d_Mod_init_150 ac_int (t0 := 0) rfl (by decide) rfl (Nat.le_of_ble_eq_true rfl) (Nat.le_of_ble_eq_true rfl) (Nat.le_of_ble_eq_true rfl) hP (by omega) (fun hP => ?_)
  have hF := hF.by2 (by omega) hP
  refine z_putFP X t_Mod ty_Mod n_Mod d_Mod_init_152 hP 0 rfl cl_Mod in_Mod 22 (by decide) fl_Mod_62 rfl rfl hnm rfl rfl rfl rfl (Nat.le_of_ble_eq_true rfl) (fun hP => ?_)
  have hF := hF.by (by simp) hP
  refine zW.gen2 (fun N' f' => N' = N + 18 ∧ zP b0 (N + 18) f' [(a, .inr (8, oM17 N)), (N, .inl (ck 0, 200, .inl (fun _ => 0))), ((N + 1), .inl (ck 0, 800, .inl (fun _ => 0))), ((N + 2), .inl (ck 0, 800, .inl (fun _ => 0))), ((N + 3), .inl (ck 0, 800, .inl (fun _ => 0))), ((N + 4), .inl (ck 0, 800, .inl (fun _ => 0))), ((N + 5), .inl (ck 0, 20, .inl (fun _ => 0))), ((N + 6), .inl (ck 0, 20, .inl (fun _ => 0))), ((N + 7), .inl (ck 1, 20, .inl (fun _ => 0))), ((N + 8), .inl (ck 0, 20, .inl (fun _ => 0))), ((N + 9), .inl (ck 0, 20, .inl (fun _ => 0))), ((N + 10), .inl (ck 1, 20, .inl (fun _ => 0))), ((N + 11), .inl (ck 1, 20, .inl (fun _ => 0))), ((N + 12), .inl (ck 1, 20, .inl (fun _ => 0))), ((N + 13), .inl (ck 0, 200, .inl (fun _ => 0))), ((N + 14), .inl (ck 1, 200, .inl (fun _ => 0))), ((N + 15), .inl (ck 0, 40, .inl (fun _ => 0))), ((N + 16), .inl (ck 0, 40, .inl (fun _ => 0))), ((N + 17), .inl (ck 0, 40, .inl (fun _ => 0)))] ∧ zF N f f' [a]) ⟨rfl, hP, hF⟩ ?_
  clear hP hF
  rintro _ f18 ⟨rfl, hP, hF⟩
  refine z_aload_n X d_Mod_init_155 rfl ?_
  refine z_bipush X d_Mod_init_156 (v := 40) (by decide) ?_
  refine z_newaiP X rfl d_Mod_init_158 ac_int (t0 := 0) rfl (by decide) rfl (Nat.le_of_ble_eq_true rfl) (Nat.le_of_ble_eq_true rfl) (Nat.le_of_ble_eq_true rfl) hP (by omega) (fun hP => ?_)
  have hF := hF.by2 (by omega) hP
  refine z_putFP X t_Mod ty_Mod n_Mod d_Mod_init_160 hP 0 rfl cl_Mod in_Mod 23 (by decide) fl_Mod_65 rfl rfl hnm rfl rfl rfl rfl (Nat.le_of_ble_eq_true rfl) (fun hP => ?_)
  have hF := hF.by (by simp) hP
  refine zW.gen2 (fun N' f' => N' = N + 19 ∧ zP b0 (N + 19) f' [(a, .inr (8, oM18 N)), (N, .inl (ck 0, 200, .inl (fun _ => 0))), ((N + 1), .inl (ck 0, 800, .inl (fun _ => 0))), ((N + 2), .inl (ck 0, 800, .inl (fun _ => 0))), ((N + 3), .inl (ck 0, 800, .inl (fun _ => 0))), ((N + 4), .inl (ck 0, 800, .inl (fun _ => 0))), ((N + 5), .inl (ck 0, 20, .inl (fun _ => 0))), ((N + 6), .inl (ck 0, 20, .inl (fun _ => 0))), ((N + 7), .inl (ck 1, 20, .inl (fun _ => 0))), ((N + 8), .inl (ck 0, 20, .inl (fun _ => 0))), ((N + 9), .inl (ck 0, 20, .inl (fun _ => 0))), ((N + 10), .inl (ck 1, 20, .inl (fun _ => 0))), ((N + 11), .inl (ck 1, 20, .inl (fun _ => 0))), ((N + 12), .inl (ck 1, 20, .inl (fun _ => 0))), ((N + 13), .inl (ck 0, 200, .inl (fun _ => 0))), ((N + 14), .inl (ck 1, 200, .inl (fun _ => 0))), ((N + 15), .inl (ck 0, 40, .inl (fun _ => 0))), ((N + 16), .inl (ck 0, 40, .inl (fun _ => 0))), ((N + 17), .inl (ck 0, 40, .inl (fun _ => 0))), ((N + 18), .inl (ck 0, 40, .inl (fun _ => 0)))] ∧ zF N f f' [a]) ⟨rfl, hP, hF⟩ ?_
  clear hP hF
  rintro _ f19 ⟨rfl, hP, hF⟩
  refine z_aload_n X d_Mod_init_163 rfl ?_
  refine z_bipush X d_Mod_init_164 (v := 64) (by decide) ?_
  refine z_newaiP X rfl d_Mod_init_166 ac_int (t0 := 0) rfl (by decide) rfl (Nat.le_of_ble_eq_true rfl) (Nat.le_of_ble_eq_true rfl) (Nat.le_of_ble_eq_true rfl) hP (by omega) (fun hP => ?_)
  have hF := hF.by2 (by omega) hP
  refine z_putFP X t_Mod ty_Mod n_Mod d_Mod_init_168 hP 0 rfl cl_Mod in_Mod 28 (by decide) fl_Mod_68 rfl rfl hnm rfl rfl rfl rfl (Nat.le_of_ble_eq_true rfl) (fun hP => ?_)
  have hF := hF.by (by simp) hP
  refine zW.gen2 (fun N' f' => N' = N + 20 ∧ zP b0 (N + 20) f' [(a, .inr (8, oM19 N)), (N, .inl (ck 0, 200, .inl (fun _ => 0))), ((N + 1), .inl (ck 0, 800, .inl (fun _ => 0))), ((N + 2), .inl (ck 0, 800, .inl (fun _ => 0))), ((N + 3), .inl (ck 0, 800, .inl (fun _ => 0))), ((N + 4), .inl (ck 0, 800, .inl (fun _ => 0))), ((N + 5), .inl (ck 0, 20, .inl (fun _ => 0))), ((N + 6), .inl (ck 0, 20, .inl (fun _ => 0))), ((N + 7), .inl (ck 1, 20, .inl (fun _ => 0))), ((N + 8), .inl (ck 0, 20, .inl (fun _ => 0))), ((N + 9), .inl (ck 0, 20, .inl (fun _ => 0))), ((N + 10), .inl (ck 1, 20, .inl (fun _ => 0))), ((N + 11), .inl (ck 1, 20, .inl (fun _ => 0))), ((N + 12), .inl (ck 1, 20, .inl (fun _ => 0))), ((N + 13), .inl (ck 0, 200, .inl (fun _ => 0))), ((N + 14), .inl (ck 1, 200, .inl (fun _ => 0))), ((N + 15), .inl (ck 0, 40, .inl (fun _ => 0))), ((N + 16), .inl (ck 0, 40, .inl (fun _ => 0))), ((N + 17), .inl (ck 0, 40, .inl (fun _ => 0))), ((N + 18), .inl (ck 0, 40, .inl (fun _ => 0))), ((N + 19), .inl (ck 0, 64, .inl (fun _ => 0)))] ∧ zF N f f' [a]) ⟨rfl, hP, hF⟩ ?_
  clear hP hF
  rintro _ f20 ⟨rfl, hP, hF⟩
  refine z_aload_n X d_Mod_init_171 rfl ?_
  refine z_bipush X d_Mod_init_172 (v := 64) (by decide) ?_
  refine z_newaiP X rfl d_Mod_init_174 ac_int (t0 := 0) rfl (by decide) rfl (Nat.le_of_ble_eq_true rfl) (Nat.le_of_ble_eq_true rfl) (Nat.le_of_ble_eq_true rfl) hP (by omega) (fun hP => ?_)
  have hF := hF.by2 (by omega) hP
  refine z_putFP X t_Mod ty_Mod n_Mod d_Mod_init_176 hP 0 rfl cl_Mod in_Mod 29 (by decide) fl_Mod_71 rfl rfl hnm rfl rfl rfl rfl (Nat.le_of_ble_eq_true rfl) (fun hP => ?_)
  have hF := hF.by (by simp) hP
  refine zW.gen2 (fun N' f' => N' = N + 21 ∧ zP b0 (N + 21) f' [(a, .inr (8, oM20 N)), (N, .inl (ck 0, 200, .inl (fun _ => 0))), ((N + 1), .inl (ck 0, 800, .inl (fun _ => 0))), ((N + 2), .inl (ck 0, 800, .inl (fun _ => 0))), ((N + 3), .inl (ck 0, 800, .inl (fun _ => 0))), ((N + 4), .inl (ck 0, 800, .inl (fun _ => 0))), ((N + 5), .inl (ck 0, 20, .inl (fun _ => 0))), ((N + 6), .inl (ck 0, 20, .inl (fun _ => 0))), ((N + 7), .inl (ck 1, 20, .inl (fun _ => 0))), ((N + 8), .inl (ck 0, 20, .inl (fun _ => 0))), ((N + 9), .inl (ck 0, 20, .inl (fun _ => 0))), ((N + 10), .inl (ck 1, 20, .inl (fun _ => 0))), ((N + 11), .inl (ck 1, 20, .inl (fun _ => 0))), ((N + 12), .inl (ck 1, 20, .inl (fun _ => 0))), ((N + 13), .inl (ck 0, 200, .inl (fun _ => 0))), ((N + 14), .inl (ck 1, 200, .inl (fun _ => 0))), ((N + 15), .inl (ck 0, 40, .inl (fun _ => 0))), ((N + 16), .inl (ck 0, 40, .inl (fun _ => 0))), ((N + 17), .inl (ck 0, 40, .inl (fun _ => 0))), ((N + 18), .inl (ck 0, 40, .inl (fun _ => 0))), ((N + 19), .inl (ck 0, 64, .inl (fun _ => 0))), ((N + 20), .inl (ck 0, 64, .inl (fun _ => 0)))] ∧ zF N f f' [a]) ⟨rfl, hP, hF⟩ ?_
  clear hP hF
  rintro _ f21 ⟨rfl, hP, hF⟩
  refine z_aload_n X d_Mod_init_179 rfl ?_
  refine z_sipush X d_Mod_init_180 (v := 400) (by decide) ?_
  refine z_newalP X rfl d_Mod_init_183 ac_long (t0 := 2) rfl (by decide) rfl (Nat.le_of_ble_eq_true rfl) (Nat.le_of_ble_eq_true rfl) (Nat.le_of_ble_eq_true rfl) hP (by omega) (fun hP => ?_)
  have hF := hF.by2 (by omega) hP
  refine z_putFP X t_Mod ty_Mod n_Mod d_Mod_init_185 hP 0 rfl cl_Mod in_Mod 31 (by decide) fl_Mod_74 rfl rfl hnm rfl rfl rfl rfl (Nat.le_of_ble_eq_true rfl) (fun hP => ?_)
  have hF := hF.by (by simp) hP
  refine zW.gen2 (fun N' f' => N' = N + 22 ∧ zP b0 (N + 22) f' [(a, .inr (8, oM21 N)), (N, .inl (ck 0, 200, .inl (fun _ => 0))), ((N + 1), .inl (ck 0, 800, .inl (fun _ => 0))), ((N + 2), .inl (ck 0, 800, .inl (fun _ => 0))), ((N + 3), .inl (ck 0, 800, .inl (fun _ => 0))), ((N + 4), .inl (ck 0, 800, .inl (fun _ => 0))), ((N + 5), .inl (ck 0, 20, .inl (fun _ => 0))), ((N + 6), .inl (ck 0, 20, .inl (fun _ => 0))), ((N + 7), .inl (ck 1, 20, .inl (fun _ => 0))), ((N + 8), .inl (ck 0, 20, .inl (fun _ => 0))), ((N + 9), .inl (ck 0, 20, .inl (fun _ => 0))), ((N + 10), .inl (ck 1, 20, .inl (fun _ => 0))), ((N + 11), .inl (ck 1, 20, .inl (fun _ => 0))), ((N + 12), .inl (ck 1, 20, .inl (fun _ => 0))), ((N + 13), .inl (ck 0, 200, .inl (fun _ => 0))), ((N + 14), .inl (ck 1, 200, .inl (fun _ => 0))), ((N + 15), .inl (ck 0, 40, .inl (fun _ => 0))), ((N + 16), .inl (ck 0, 40, .inl (fun _ => 0))), ((N + 17), .inl (ck 0, 40, .inl (fun _ => 0))), ((N + 18), .inl (ck 0, 40, .inl (fun _ => 0))), ((N + 19), .inl (ck 0, 64, .inl (fun _ => 0))), ((N + 20), .inl (ck 0, 64, .inl (fun _ => 0))), ((N + 21), .inl (ck 2, 400, .inr (.inl (fun _ => 0))))] ∧ zF N f f' [a]) ⟨rfl, hP, hF⟩ ?_
  clear hP hF
  rintro _ f22 ⟨rfl, hP, hF⟩
  refine z_aload_n X d_Mod_init_188 rfl ?_
  refine z_sipush X d_Mod_init_189 (v := 400) (by decide) ?_
  refine z_newazP X rfl d_Mod_init_192 ac_boolean (t0 := 1) rfl (by decide) rfl (Nat.le_of_ble_eq_true rfl) (Nat.le_of_ble_eq_true rfl) (Nat.le_of_ble_eq_true rfl) hP (by omega) (fun hP => ?_)
  have hF := hF.by2 (by omega) hP
  refine z_putFP X t_Mod ty_Mod n_Mod d_Mod_init_194 hP 0 rfl cl_Mod in_Mod 32 (by decide) fl_Mod_78 rfl rfl hnm rfl rfl rfl rfl (Nat.le_of_ble_eq_true rfl) (fun hP => ?_)
  have hF := hF.by (by simp) hP
  refine zW.gen2 (fun N' f' => N' = N + 23 ∧ zP b0 (N + 23) f' [(a, .inr (8, oM22 N)), (N, .inl (ck 0, 200, .inl (fun _ => 0))), ((N + 1), .inl (ck 0, 800, .inl (fun _ => 0))), ((N + 2), .inl (ck 0, 800, .inl (fun _ => 0))), ((N + 3), .inl (ck 0, 800, .inl (fun _ => 0))), ((N + 4), .inl (ck 0, 800, .inl (fun _ => 0))), ((N + 5), .inl (ck 0, 20, .inl (fun _ => 0))), ((N + 6), .inl (ck 0, 20, .inl (fun _ => 0))), ((N + 7), .inl (ck 1, 20, .inl (fun _ => 0))), ((N + 8), .inl (ck 0, 20, .inl (fun _ => 0))), ((N + 9), .inl (ck 0, 20, .inl (fun _ => 0))), ((N + 10), .inl (ck 1, 20, .inl (fun _ => 0))), ((N + 11), .inl (ck 1, 20, .inl (fun _ => 0))), ((N + 12), .inl (ck 1, 20, .inl (fun _ => 0))), ((N + 13), .inl (ck 0, 200, .inl (fun _ => 0))), ((N + 14), .inl (ck 1, 200, .inl (fun _ => 0))), ((N + 15), .inl (ck 0, 40, .inl (fun _ => 0))), ((N + 16), .inl (ck 0, 40, .inl (fun _ => 0))), ((N + 17), .inl (ck 0, 40, .inl (fun _ => 0))), ((N + 18), .inl (ck 0, 40, .inl (fun _ => 0))), ((N + 19), .inl (ck 0, 64, .inl (fun _ => 0))), ((N + 20), .inl (ck 0, 64, .inl (fun _ => 0))), ((N + 21), .inl (ck 2, 400, .inr (.inl (fun _ => 0)))), ((N + 22), .inl (ck 1, 400, .inl (fun _ => 0)))] ∧ zF N f f' [a]) ⟨rfl, hP, hF⟩ ?_
  clear hP hF
  rintro _ f23 ⟨rfl, hP, hF⟩
  refine z_aload_n X d_Mod_init_197 rfl ?_
  refine z_sipush X d_Mod_init_198 (v := 400) (by decide) ?_
  refine z_newaiP X rfl d_Mod_init_201 ac_int (t0 := 0) rfl (by decide) rfl (Nat.le_of_ble_eq_true rfl) (Nat.le_of_ble_eq_true rfl) (Nat.le_of_ble_eq_true rfl) hP (by omega) (fun hP => ?_)
  have hF := hF.by2 (by omega) hP
  refine z_putFP X t_Mod ty_Mod n_Mod d_Mod_init_203 hP 0 rfl cl_Mod in_Mod 33 (by decide) fl_Mod_81 rfl rfl hnm rfl rfl rfl rfl (Nat.le_of_ble_eq_true rfl) (fun hP => ?_)
  have hF := hF.by (by simp) hP
  refine zW.gen2 (fun N' f' => N' = N + 24 ∧ zP b0 (N + 24) f' [(a, .inr (8, oM23 N)), (N, .inl (ck 0, 200, .inl (fun _ => 0))), ((N + 1), .inl (ck 0, 800, .inl (fun _ => 0))), ((N + 2), .inl (ck 0, 800, .inl (fun _ => 0))), ((N + 3), .inl (ck 0, 800, .inl (fun _ => 0))), ((N + 4), .inl (ck 0, 800, .inl (fun _ => 0))), ((N + 5), .inl (ck 0, 20, .inl (fun _ => 0))), ((N + 6), .inl (ck 0, 20, .inl (fun _ => 0))), ((N + 7), .inl (ck 1, 20, .inl (fun _ => 0))), ((N + 8), .inl (ck 0, 20, .inl (fun _ => 0))), ((N + 9), .inl (ck 0, 20, .inl (fun _ => 0))), ((N + 10), .inl (ck 1, 20, .inl (fun _ => 0))), ((N + 11), .inl (ck 1, 20, .inl (fun _ => 0))), ((N + 12), .inl (ck 1, 20, .inl (fun _ => 0))), ((N + 13), .inl (ck 0, 200, .inl (fun _ => 0))), ((N + 14), .inl (ck 1, 200, .inl (fun _ => 0))), ((N + 15), .inl (ck 0, 40, .inl (fun _ => 0))), ((N + 16), .inl (ck 0, 40, .inl (fun _ => 0))), ((N + 17), .inl (ck 0, 40, .inl (fun _ => 0))), ((N + 18), .inl (ck 0, 40, .inl (fun _ => 0))), ((N + 19), .inl (ck 0, 64, .inl (fun _ => 0))), ((N + 20), .inl (ck 0, 64, .inl (fun _ => 0))), ((N + 21), .inl (ck 2, 400, .inr (.inl (fun _ => 0)))), ((N + 22), .inl (ck 1, 400, .inl (fun _ => 0))), ((N + 23), .inl (ck 0, 400, .inl (fun _ => 0)))] ∧ zF N f f' [a]) ⟨rfl, hP, hF⟩ ?_
  clear hP hF
  rintro _ f24 ⟨rfl, hP, hF⟩
  refine z_aload_n X d_Mod_init_206 rfl ?_
  refine z_bipush X d_Mod_init_207 (v := 64) (by decide) ?_
  refine z_newaiP X rfl d_Mod_init_209 ac_int (t0 := 0) rfl (by decide) rfl (Nat.le_of_ble_eq_true rfl) (Nat.le_of_ble_eq_true rfl) (Nat.le_of_ble_eq_true rfl) hP (by omega) (fun hP => ?_)
  have hF := hF.by2 (by omega) hP
  refine z_putFP X t_Mod ty_Mod n_Mod d_Mod_init_211 hP 0 rfl cl_Mod in_Mod 34 (by decide) fl_Mod_84 rfl rfl hnm rfl rfl rfl rfl (Nat.le_of_ble_eq_true rfl) (fun hP => ?_)
  have hF := hF.by (by simp) hP
  refine zW.gen2 (fun N' f' => N' = N + 25 ∧ zP b0 (N + 25) f' [(a, .inr (8, oM24 N)), (N, .inl (ck 0, 200, .inl (fun _ => 0))), ((N + 1), .inl (ck 0, 800, .inl (fun _ => 0))), ((N + 2), .inl (ck 0, 800, .inl (fun _ => 0))), ((N + 3), .inl (ck 0, 800, .inl (fun _ => 0))), ((N + 4), .inl (ck 0, 800, .inl (fun _ => 0))), ((N + 5), .inl (ck 0, 20, .inl (fun _ => 0))), ((N + 6), .inl (ck 0, 20, .inl (fun _ => 0))), ((N + 7), .inl (ck 1, 20, .inl (fun _ => 0))), ((N + 8), .inl (ck 0, 20, .inl (fun _ => 0))), ((N + 9), .inl (ck 0, 20, .inl (fun _ => 0))), ((N + 10), .inl (ck 1, 20, .inl (fun _ => 0))), ((N + 11), .inl (ck 1, 20, .inl (fun _ => 0))), ((N + 12), .inl (ck 1, 20, .inl (fun _ => 0))), ((N + 13), .inl (ck 0, 200, .inl (fun _ => 0))), ((N + 14), .inl (ck 1, 200, .inl (fun _ => 0))), ((N + 15), .inl (ck 0, 40, .inl (fun _ => 0))), ((N + 16), .inl (ck 0, 40, .inl (fun _ => 0))), ((N + 17), .inl (ck 0, 40, .inl (fun _ => 0))), ((N + 18), .inl (ck 0, 40, .inl (fun _ => 0))), ((N + 19), .inl (ck 0, 64, .inl (fun _ => 0))), ((N + 20), .inl (ck 0, 64, .inl (fun _ => 0))), ((N + 21), .inl (ck 2, 400, .inr (.inl (fun _ => 0)))), ((N + 22), .inl (ck 1, 400, .inl (fun _ => 0))), ((N + 23), .inl (ck 0, 400, .inl (fun _ => 0))), ((N + 24), .inl (ck 0, 64, .inl (fun _ => 0)))] ∧ zF N f f' [a]) ⟨rfl, hP, hF⟩ ?_
  clear hP hF
  rintro _ f25 ⟨rfl, hP, hF⟩
  refine z_aload_n X d_Mod_init_214 rfl ?_
  refine z_sipush X d_Mod_init_215 (v := 2000) (by decide) ?_
  refine z_newaiP X rfl d_Mod_init_218 ac_int (t0 := 0) rfl (by decide) rfl (Nat.le_of_ble_eq_true rfl) (Nat.le_of_ble_eq_true rfl) (Nat.le_of_ble_eq_true rfl) hP (by omega) (fun hP => ?_)
  have hF := hF.by2 (by omega) hP
  refine z_putFP X t_Mod ty_Mod n_Mod d_Mod_init_220 hP 0 rfl cl_Mod in_Mod 35 (by decide) fl_Mod_87 rfl rfl hnm rfl rfl rfl rfl (Nat.le_of_ble_eq_true rfl) (fun hP => ?_)
  have hF := hF.by (by simp) hP
  refine zW.gen2 (fun N' f' => N' = N + 26 ∧ zP b0 (N + 26) f' [(a, .inr (8, oM25 N)), (N, .inl (ck 0, 200, .inl (fun _ => 0))), ((N + 1), .inl (ck 0, 800, .inl (fun _ => 0))), ((N + 2), .inl (ck 0, 800, .inl (fun _ => 0))), ((N + 3), .inl (ck 0, 800, .inl (fun _ => 0))), ((N + 4), .inl (ck 0, 800, .inl (fun _ => 0))), ((N + 5), .inl (ck 0, 20, .inl (fun _ => 0))), ((N + 6), .inl (ck 0, 20, .inl (fun _ => 0))), ((N + 7), .inl (ck 1, 20, .inl (fun _ => 0))), ((N + 8), .inl (ck 0, 20, .inl (fun _ => 0))), ((N + 9), .inl (ck 0, 20, .inl (fun _ => 0))), ((N + 10), .inl (ck 1, 20, .inl (fun _ => 0))), ((N + 11), .inl (ck 1, 20, .inl (fun _ => 0))), ((N + 12), .inl (ck 1, 20, .inl (fun _ => 0))), ((N + 13), .inl (ck 0, 200, .inl (fun _ => 0))), ((N + 14), .inl (ck 1, 200, .inl (fun _ => 0))), ((N + 15), .inl (ck 0, 40, .inl (fun _ => 0))), ((N + 16), .inl (ck 0, 40, .inl (fun _ => 0))), ((N + 17), .inl (ck 0, 40, .inl (fun _ => 0))), ((N + 18), .inl (ck 0, 40, .inl (fun _ => 0))), ((N + 19), .inl (ck 0, 64, .inl (fun _ => 0))), ((N + 20), .inl (ck 0, 64, .inl (fun _ => 0))), ((N + 21), .inl (ck 2, 400, .inr (.inl (fun _ => 0)))), ((N + 22), .inl (ck 1, 400, .inl (fun _ => 0))), ((N + 23), .inl (ck 0, 400, .inl (fun _ => 0))), ((N + 24), .inl (ck 0, 64, .inl (fun _ => 0))), ((N + 25), .inl (ck 0, 2000, .inl (fun _ => 0)))] ∧ zF N f f' [a]) ⟨rfl, hP, hF⟩ ?_
  clear hP hF
  rintro _ f26 ⟨rfl, hP, hF⟩
  refine z_aload_n X d_Mod_init_223 rfl ?_
  refine z_sipush X d_Mod_init_224 (v := 400) (by decide) ?_
  refine z_newaiP X rfl d_Mod_init_227 ac_int (t0 := 0) rfl (by decide) rfl (Nat.le_of_ble_eq_true rfl) (Nat.le_of_ble_eq_true rfl) (Nat.le_of_ble_eq_true rfl) hP (by omega) (fun hP => ?_)
  have hF := hF.by2 (by omega) hP
  refine z_putFP X t_Mod ty_Mod n_Mod d_Mod_init_229 hP 0 rfl cl_Mod in_Mod 37 (by decide) fl_Mod_90 rfl rfl hnm rfl rfl rfl rfl (Nat.le_of_ble_eq_true rfl) (fun hP => ?_)
  have hF := hF.by (by simp) hP
  refine zW.gen2 (fun N' f' => N' = N + 27 ∧ zP b0 (N + 27) f' [(a, .inr (8, oM26 N)), (N, .inl (ck 0, 200, .inl (fun _ => 0))), ((N + 1), .inl (ck 0, 800, .inl (fun _ => 0))), ((N + 2), .inl (ck 0, 800, .inl (fun _ => 0))), ((N + 3), .inl (ck 0, 800, .inl (fun _ => 0))), ((N + 4), .inl (ck 0, 800, .inl (fun _ => 0))), ((N + 5), .inl (ck 0, 20, .inl (fun _ => 0))), ((N + 6), .inl (ck 0, 20, .inl (fun _ => 0))), ((N + 7), .inl (ck 1, 20, .inl (fun _ => 0))), ((N + 8), .inl (ck 0, 20, .inl (fun _ => 0))), ((N + 9), .inl (ck 0, 20, .inl (fun _ => 0))), ((N + 10), .inl (ck 1, 20, .inl (fun _ => 0))), ((N + 11), .inl (ck 1, 20, .inl (fun _ => 0))), ((N + 12), .inl (ck 1, 20, .inl (fun _ => 0))), ((N + 13), .inl (ck 0, 200, .inl (fun _ => 0))), ((N + 14), .inl (ck 1, 200, .inl (fun _ => 0))), ((N + 15), .inl (ck 0, 40, .inl (fun _ => 0))), ((N + 16), .inl (ck 0, 40, .inl (fun _ => 0))), ((N + 17), .inl (ck 0, 40, .inl (fun _ => 0))), ((N + 18), .inl (ck 0, 40, .inl (fun _ => 0))), ((N + 19), .inl (ck 0, 64, .inl (fun _ => 0))), ((N + 20), .inl (ck 0, 64, .inl (fun _ => 0))), ((N + 21), .inl (ck 2, 400, .inr (.inl (fun _ => 0)))), ((N + 22), .inl (ck 1, 400, .inl (fun _ => 0))), ((N + 23), .inl (ck 0, 400, .inl (fun _ => 0))), ((N + 24), .inl (ck 0, 64, .inl (fun _ => 0))), ((N + 25), .inl (ck 0, 2000, .inl (fun _ => 0))), ((N + 26), .inl (ck 0, 400, .inl (fun _ => 0)))] ∧ zF N f f' [a]) ⟨rfl, hP, hF⟩ ?_
  clear hP hF
  rintro _ f27 ⟨rfl, hP, hF⟩
  refine zW.widen (k := 27) (n := 7912) (Nat.le_of_ble_eq_true rfl) (Nat.le_of_ble_eq_true rfl) ?_
  exact z_vret X d_Mod_init_232 ⟨rfl, rfl, hP, hF⟩
/-- the same, as the reference's state -/
theorem md_cs : ∀ k, (md k).1 ≠ 9 → k = 38 ∨ k ∈ [1, 6, 7, 8, 9, 10, 11, 12, 13, 14, 15, 16, 17, 18, 19, 20, 21, 22, 23, 28, 29, 31, 32, 33, 34, 35, 37]  := by
  intro k h
  unfold md at h
  split at h
  all_goals first | exact absurd rfl h | (left; rfl) | (right; decide)
theorem mA_zM {a : Nat} {f : Nat → va_E} (hP : zP b0 (N + 27) f [(a, .inr (8, oM26 N)), (N, .inl (ck 0, 200, .inl (fun _ => 0))), ((N + 1), .inl (ck 0, 800, .inl (fun _ => 0))), ((N + 2), .inl (ck 0, 800, .inl (fun _ => 0))), ((N + 3), .inl (ck 0, 800, .inl (fun _ => 0))), ((N + 4), .inl (ck 0, 800, .inl (fun _ => 0))), ((N + 5), .inl (ck 0, 20, .inl (fun _ => 0))), ((N + 6), .inl (ck 0, 20, .inl (fun _ => 0))), ((N + 7), .inl (ck 1, 20, .inl (fun _ => 0))), ((N + 8), .inl (ck 0, 20, .inl (fun _ => 0))), ((N + 9), .inl (ck 0, 20, .inl (fun _ => 0))), ((N + 10), .inl (ck 1, 20, .inl (fun _ => 0))), ((N + 11), .inl (ck 1, 20, .inl (fun _ => 0))), ((N + 12), .inl (ck 1, 20, .inl (fun _ => 0))), ((N + 13), .inl (ck 0, 200, .inl (fun _ => 0))), ((N + 14), .inl (ck 1, 200, .inl (fun _ => 0))), ((N + 15), .inl (ck 0, 40, .inl (fun _ => 0))), ((N + 16), .inl (ck 0, 40, .inl (fun _ => 0))), ((N + 17), .inl (ck 0, 40, .inl (fun _ => 0))), ((N + 18), .inl (ck 0, 40, .inl (fun _ => 0))), ((N + 19), .inl (ck 0, 64, .inl (fun _ => 0))), ((N + 20), .inl (ck 0, 64, .inl (fun _ => 0))), ((N + 21), .inl (ck 2, 400, .inr (.inl (fun _ => 0)))), ((N + 22), .inl (ck 1, 400, .inl (fun _ => 0))), ((N + 23), .inl (ck 0, 400, .inl (fun _ => 0))), ((N + 24), .inl (ck 0, 64, .inl (fun _ => 0))), ((N + 25), .inl (ck 0, 2000, .inl (fun _ => 0))), ((N + 26), .inl (ck 0, 400, .inl (fun _ => 0)))]) (ha : a < N) : zMf ck b0 (N + 27) (mA a N) f f μ0 := by
  refine ⟨fun k hk => ?_, fun j k hj hk e => ?_, fun _ _ => rfl⟩
  · rcases md_cs k hk with rfl | h
    · exact ⟨hP.lo 0 rfl, hP.at 0 rfl⟩
    · simp only [List.mem_cons, List.not_mem_nil, or_false] at h
      rcases h with rfl | rfl | rfl | rfl | rfl | rfl | rfl | rfl | rfl | rfl | rfl | rfl | rfl | rfl | rfl | rfl | rfl | rfl | rfl | rfl | rfl | rfl | rfl | rfl | rfl | rfl | rfl
      · exact ⟨hP.lo 1 rfl, hP.at 1 rfl⟩
      · exact ⟨hP.lo 2 rfl, hP.at 2 rfl⟩
      · exact ⟨hP.lo 3 rfl, hP.at 3 rfl⟩
      · exact ⟨hP.lo 4 rfl, hP.at 4 rfl⟩
      · exact ⟨hP.lo 5 rfl, hP.at 5 rfl⟩
      · exact ⟨hP.lo 6 rfl, hP.at 6 rfl⟩
      · exact ⟨hP.lo 7 rfl, hP.at 7 rfl⟩
      · exact ⟨hP.lo 8 rfl, hP.at 8 rfl⟩
      · exact ⟨hP.lo 9 rfl, hP.at 9 rfl⟩
      · exact ⟨hP.lo 10 rfl, hP.at 10 rfl⟩
      · exact ⟨hP.lo 11 rfl, hP.at 11 rfl⟩
      · exact ⟨hP.lo 12 rfl, hP.at 12 rfl⟩
      · exact ⟨hP.lo 13 rfl, hP.at 13 rfl⟩
      · exact ⟨hP.lo 14 rfl, hP.at 14 rfl⟩
      · exact ⟨hP.lo 15 rfl, hP.at 15 rfl⟩
      · exact ⟨hP.lo 16 rfl, hP.at 16 rfl⟩
      · exact ⟨hP.lo 17 rfl, hP.at 17 rfl⟩
      · exact ⟨hP.lo 18 rfl, hP.at 18 rfl⟩
      · exact ⟨hP.lo 19 rfl, hP.at 19 rfl⟩
      · exact ⟨hP.lo 20 rfl, hP.at 20 rfl⟩
      · exact ⟨hP.lo 21 rfl, hP.at 21 rfl⟩
      · exact ⟨hP.lo 22 rfl, hP.at 22 rfl⟩
      · exact ⟨hP.lo 23 rfl, hP.at 23 rfl⟩
      · exact ⟨hP.lo 24 rfl, hP.at 24 rfl⟩
      · exact ⟨hP.lo 25 rfl, hP.at 25 rfl⟩
      · exact ⟨hP.lo 26 rfl, hP.at 26 rfl⟩
      · exact ⟨hP.lo 27 rfl, hP.at 27 rfl⟩
  · have key : ∀ i, i = 38 ∨ i ∈ [1, 6, 7, 8, 9, 10, 11, 12, 13, 14, 15, 16, 17, 18, 19, 20, 21, 22, 23, 28, 29, 31, 32, 33, 34, 35, 37] → (i = 38 ∧ mA a N i = a) ∨ ∃ q, (q, i) ∈ [(0, 1), (1, 6), (2, 7), (3, 8), (4, 9), (5, 10), (6, 11), (7, 12), (8, 13), (9, 14), (10, 15), (11, 16), (12, 17), (13, 18), (14, 19), (15, 20), (16, 21), (17, 22), (18, 23), (19, 28), (20, 29), (21, 31), (22, 32), (23, 33), (24, 34), (25, 35), (26, 37)] ∧ mA a N i = N + q := by
      intro i h
      rcases h with rfl | h
      · exact Or.inl ⟨rfl, rfl⟩
      · right
        simp only [List.mem_cons, List.not_mem_nil, or_false] at h
        rcases h with rfl | rfl | rfl | rfl | rfl | rfl | rfl | rfl | rfl | rfl | rfl | rfl | rfl | rfl | rfl | rfl | rfl | rfl | rfl | rfl | rfl | rfl | rfl | rfl | rfl | rfl | rfl
        · exact ⟨0, by decide, rfl⟩
        · exact ⟨1, by decide, rfl⟩
        · exact ⟨2, by decide, rfl⟩
        · exact ⟨3, by decide, rfl⟩
        · exact ⟨4, by decide, rfl⟩
        · exact ⟨5, by decide, rfl⟩
        · exact ⟨6, by decide, rfl⟩
        · exact ⟨7, by decide, rfl⟩
        · exact ⟨8, by decide, rfl⟩
        · exact ⟨9, by decide, rfl⟩
        · exact ⟨10, by decide, rfl⟩
        · exact ⟨11, by decide, rfl⟩
        · exact ⟨12, by decide, rfl⟩
        · exact ⟨13, by decide, rfl⟩
        · exact ⟨14, by decide, rfl⟩
        · exact ⟨15, by decide, rfl⟩
        · exact ⟨16, by decide, rfl⟩
        · exact ⟨17, by decide, rfl⟩
        · exact ⟨18, by decide, rfl⟩
        · exact ⟨19, by decide, rfl⟩
        · exact ⟨20, by decide, rfl⟩
        · exact ⟨21, by decide, rfl⟩
        · exact ⟨22, by decide, rfl⟩
        · exact ⟨23, by decide, rfl⟩
        · exact ⟨24, by decide, rfl⟩
        · exact ⟨25, by decide, rfl⟩
        · exact ⟨26, by decide, rfl⟩
    have inj : ∀ q i j, (q, i) ∈ [(0, 1), (1, 6), (2, 7), (3, 8), (4, 9), (5, 10), (6, 11), (7, 12), (8, 13), (9, 14), (10, 15), (11, 16), (12, 17), (13, 18), (14, 19), (15, 20), (16, 21), (17, 22), (18, 23), (19, 28), (20, 29), (21, 31), (22, 32), (23, 33), (24, 34), (25, 35), (26, 37)] → (q, j) ∈ [(0, 1), (1, 6), (2, 7), (3, 8), (4, 9), (5, 10), (6, 11), (7, 12), (8, 13), (9, 14), (10, 15), (11, 16), (12, 17), (13, 18), (14, 19), (15, 20), (16, 21), (17, 22), (18, 23), (19, 28), (20, 29), (21, 31), (22, 32), (23, 33), (24, 34), (25, 35), (26, 37)] → i = j := by
      intro q i j h1 h2
      simp only [List.mem_cons, List.not_mem_nil, or_false, Prod.mk.injEq] at h1 h2
      omega
    rcases key j (md_cs j hj) with ⟨e1, e2⟩ | ⟨q, e1, e2⟩ <;> rcases key k (md_cs k hk) with ⟨g1, g2⟩ | ⟨w, g1, g2⟩
    · rw [e1, g1]
    · rw [e2, g2] at e; omega
    · rw [e2, g2] at e; omega
    · rw [e2, g2] at e
      have : q = w := by omega
      subst this
      exact inj q j k e1 g1
end
