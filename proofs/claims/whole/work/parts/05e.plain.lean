theorem pf_1 : plainFor (mty 1) = true := plainFor_of_name (by decide +kernel)
theorem pf_2 : plainFor (mty 2) = true := plainFor_of_name (by decide +kernel)
theorem pf_3 : plainFor (mty 3) = true := plainFor_of_name (by decide +kernel)
theorem pf_4 : plainFor (mty 4) = true := plainFor_of_name (by decide +kernel)
theorem pf_5 : plainFor (mty 5) = true := plainFor_of_name (by decide +kernel)
theorem pf_6 : plainFor (mty 6) = true := plainFor_of_name (by decide +kernel)
theorem pf_7 : plainFor (mty 7) = true := plainFor_of_name (by decide +kernel)
theorem pf_8 : plainFor (mty 8) = true := plainFor_of_name (by decide +kernel)
theorem pf_9 : plainFor (mty 9) = true := plainFor_of_name (by decide +kernel)
theorem pf_10 : plainFor (mty 10) = true := plainFor_of_name (by decide +kernel)
theorem pf_11 : plainFor (mty 11) = true := plainFor_of_name (by decide +kernel)
theorem pf_12 : plainFor (mty 12) = true := plainFor_of_name (by decide +kernel)
theorem pf_13 : plainFor (mty 13) = true := plainFor_of_name (by decide +kernel)
theorem pf_14 : plainFor (mty 14) = true := plainFor_of_name (by decide +kernel)
theorem pf_15 : plainFor (mty 15) = true := plainFor_of_name (by decide +kernel)
theorem pf_16 : plainFor (mty 16) = true := plainFor_of_name (by decide +kernel)
theorem pf_17 : plainFor (mty 17) = true := plainFor_of_name (by decide +kernel)
theorem pf_18 : plainFor (mty 18) = true := plainFor_of_name (by decide +kernel)
theorem pf_19 : plainFor (mty 19) = true := plainFor_of_name (by decide +kernel)
theorem pf_20 : plainFor (mty 20) = true := plainFor_of_name (by decide +kernel)
theorem pf_21 : plainFor (mty 21) = true := plainFor_of_name (by decide +kernel)
theorem pf_22 : plainFor (mty 22) = true := plainFor_of_name (by decide +kernel)
theorem pf_23 : plainFor (mty 23) = true := plainFor_of_name (by decide +kernel)
theorem pf_24 : plainFor (mty 24) = true := plainFor_of_name (by decide +kernel)
theorem pf_25 : plainFor (mty 25) = true := plainFor_of_name (by decide +kernel)
theorem pf_26 : plainFor (mty 26) = true := plainFor_of_name (by decide +kernel)
theorem pf_27 : plainFor (mty 27) = true := plainFor_of_name (by decide +kernel)
theorem pf_28 : plainFor (mty 28) = true := plainFor_of_name (by decide +kernel)
theorem pf_29 : plainFor (mty 29) = true := plainFor_of_name (by decide +kernel)
theorem pf_30 : plainFor (mty 30) = true := plainFor_of_name (by decide +kernel)
theorem pf_31 : plainFor (mty 31) = true := plainFor_of_name (by decide +kernel)
theorem pf_32 : plainFor (mty 32) = true := plainFor_of_name (by decide +kernel)
theorem pf_33 : plainFor (mty 33) = true := plainFor_of_name (by decide +kernel)
theorem pf_34 : plainFor (mty 34) = true := plainFor_of_name (by decide +kernel)
theorem pf_35 : plainFor (mty 35) = true := plainFor_of_name (by decide +kernel)
theorem pf_36 : plainFor (mty 36) = true := plainFor_of_name (by decide +kernel)
theorem pf_37 : plainFor (mty 37) = true := plainFor_of_name (by decide +kernel)
theorem pf_38 : plainFor (mty 38) = true := plainFor_of_name (by decide +kernel)
theorem pf_39 : plainFor (mty 39) = true := plainFor_of_name (by decide +kernel)
theorem pf_40 : plainFor (mty 40) = true := plainFor_of_name (by decide +kernel)
theorem pf_41 : plainFor (mty 41) = true := plainFor_of_name (by decide +kernel)
theorem pf_42 : plainFor (mty 42) = true := plainFor_of_name (by decide +kernel)
theorem pf_43 : plainFor (mty 43) = true := plainFor_of_name (by decide +kernel)
theorem pf_44 : plainFor (mty 44) = true := plainFor_of_name (by decide +kernel)
theorem pf_45 : plainFor (mty 45) = true := plainFor_of_name (by decide +kernel)
theorem pf_46 : plainFor (mty 46) = true := plainFor_of_name (by decide +kernel)
theorem pf_47 : plainFor (mty 47) = true := plainFor_of_name (by decide +kernel)
theorem pf_48 : plainFor (mty 48) = true := plainFor_of_name (by decide +kernel)
theorem pf_49 : plainFor (mty 49) = true := plainFor_of_name (by decide +kernel)
theorem pf_50 : plainFor (mty 50) = true := plainFor_of_name (by decide +kernel)
theorem pf_51 : plainFor (mty 51) = true := plainFor_of_name (by decide +kernel)
theorem pf_52 : plainFor (mty 52) = true := plainFor_of_name (by decide +kernel)
theorem pf_53 : plainFor (mty 53) = true := by decide +kernel
theorem pf_54 : plainFor (mty 54) = true := by decide +kernel
theorem pf_55 : plainFor (mty 55) = true := plainFor_of_name (by decide +kernel)
theorem pf_56 : plainFor (mty 56) = true := plainFor_of_name (by decide +kernel)
theorem pf_57 : plainFor (mty 57) = true := plainFor_of_name (by decide +kernel)
theorem pf_58 : plainFor (mty 58) = true := plainFor_of_name (by decide +kernel)
theorem pf_59 : plainFor (mty 59) = true := plainFor_of_name (by decide +kernel)
theorem pf_60 : plainFor (mty 60) = true := plainFor_of_name (by decide +kernel)
theorem pf_61 : plainFor (mty 61) = true := plainFor_of_name (by decide +kernel)
theorem pf_62 : plainFor (mty 62) = true := plainFor_of_name (by decide +kernel)
theorem pf_63 : plainFor (mty 63) = true := plainFor_of_name (by decide +kernel)
theorem pf_64 : plainFor (mty 64) = true := plainFor_of_name (by decide +kernel)
theorem pf_65 : plainFor (mty 65) = true := plainFor_of_name (by decide +kernel)
theorem pf_66 : plainFor (mty 66) = true := plainFor_of_name (by decide +kernel)
theorem pf_67 : plainFor (mty 67) = true := plainFor_of_name (by decide +kernel)
theorem pf_68 : plainFor (mty 68) = true := plainFor_of_name (by decide +kernel)
theorem pf_69 : plainFor (mty 69) = true := plainFor_of_name (by decide +kernel)
theorem pf_70 : plainFor (mty 70) = true := plainFor_of_name (by decide +kernel)
theorem pf_71 : plainFor (mty 71) = true := plainFor_of_name (by decide +kernel)
theorem pf_72 : plainFor (mty 72) = true := plainFor_of_name (by decide +kernel)
theorem pf_73 : plainFor (mty 73) = true := plainFor_of_name (by decide +kernel)
theorem pf_74 : plainFor (mty 74) = true := plainFor_of_name (by decide +kernel)
theorem pf_75 : plainFor (mty 75) = true := plainFor_of_name (by decide +kernel)
theorem pf_76 : plainFor (mty 76) = true := plainFor_of_name (by decide +kernel)
theorem pf_77 : plainFor (mty 77) = true := plainFor_of_name (by decide +kernel)
theorem pf_78 : plainFor (mty 78) = true := plainFor_of_name (by decide +kernel)
theorem pf_79 : plainFor (mty 79) = true := plainFor_of_name (by decide +kernel)
theorem pf_80 : plainFor (mty 80) = true := plainFor_of_name (by decide +kernel)
theorem pf_81 : plainFor (mty 81) = true := plainFor_of_name (by decide +kernel)
theorem pf_82 : plainFor (mty 82) = true := plainFor_of_name (by decide +kernel)
theorem pf_83 : plainFor (mty 83) = true := plainFor_of_name (by decide +kernel)
theorem pf_84 : plainFor (mty 84) = true := plainFor_of_name (by decide +kernel)
theorem pf_85 : plainFor (mty 85) = true := plainFor_of_name (by decide +kernel)
theorem pf_86 : plainFor (mty 86) = true := plainFor_of_name (by decide +kernel)
theorem pf_87 : plainFor (mty 87) = true := plainFor_of_name (by decide +kernel)
theorem pf_88 : plainFor (mty 88) = true := plainFor_of_name (by decide +kernel)
theorem pf_89 : plainFor (mty 89) = true := plainFor_of_name (by decide +kernel)
theorem pf_90 : plainFor (mty 90) = true := plainFor_of_name (by decide +kernel)
theorem pf_91 : plainFor (mty 91) = true := plainFor_of_name (by decide +kernel)
theorem pf_92 : plainFor (mty 92) = true := plainFor_of_name (by decide +kernel)
theorem pf_93 : plainFor (mty 93) = true := plainFor_of_name (by decide +kernel)
theorem pf_94 : plainFor (mty 94) = true := plainFor_of_name (by decide +kernel)
theorem pf_95 : plainFor (mty 95) = true := plainFor_of_name (by decide +kernel)
theorem pf_96 : plainFor (mty 96) = true := plainFor_of_name (by decide +kernel)
theorem pf_97 : plainFor (mty 97) = true := plainFor_of_name (by decide +kernel)
theorem pf_98 : plainFor (mty 98) = true := plainFor_of_name (by decide +kernel)
theorem pf_99 : plainFor (mty 99) = true := plainFor_of_name (by decide +kernel)
theorem pf_100 : plainFor (mty 100) = true := by decide +kernel
theorem pf_101 : plainFor (mty 101) = true := plainFor_of_name (by decide +kernel)
theorem pf_102 : plainFor (mty 102) = true := plainFor_of_name (by decide +kernel)
theorem pf_103 : plainFor (mty 103) = true := plainFor_of_name (by decide +kernel)
theorem pf_104 : plainFor (mty 104) = true := plainFor_of_name (by decide +kernel)
theorem pf_105 : plainFor (mty 105) = true := plainFor_of_name (by decide +kernel)
theorem pf_106 : plainFor (mty 106) = true := plainFor_of_name (by decide +kernel)
theorem pf_107 : plainFor (mty 107) = true := plainFor_of_name (by decide +kernel)
theorem pf_108 : plainFor (mty 108) = true := plainFor_of_name (by decide +kernel)
theorem pf_109 : plainFor (mty 109) = true := plainFor_of_name (by decide +kernel)
theorem pf_110 : plainFor (mty 110) = true := plainFor_of_name (by decide +kernel)
theorem pf_111 : plainFor (mty 111) = true := plainFor_of_name (by decide +kernel)
theorem pf_112 : plainFor (mty 112) = true := plainFor_of_name (by decide +kernel)
theorem pf_113 : plainFor (mty 113) = true := plainFor_of_name (by decide +kernel)
theorem pf_114 : plainFor (mty 114) = true := plainFor_of_name (by decide +kernel)
theorem pf_115 : plainFor (mty 115) = true := plainFor_of_name (by decide +kernel)
theorem pf_116 : plainFor (mty 116) = true := plainFor_of_name (by decide +kernel)
theorem pf_117 : plainFor (mty 117) = true := plainFor_of_name (by decide +kernel)
theorem pf_118 : plainFor (mty 118) = true := plainFor_of_name (by decide +kernel)
theorem pf_119 : plainFor (mty 119) = true := plainFor_of_name (by decide +kernel)
theorem pf_120 : plainFor (mty 120) = true := plainFor_of_name (by decide +kernel)
theorem pf_121 : plainFor (mty 121) = true := plainFor_of_name (by decide +kernel)
theorem pf_122 : plainFor (mty 122) = true := plainFor_of_name (by decide +kernel)
theorem pf_123 : plainFor (mty 123) = true := plainFor_of_name (by decide +kernel)
theorem pf_124 : plainFor (mty 124) = true := plainFor_of_name (by decide +kernel)
theorem pf_125 : plainFor (mty 125) = true := plainFor_of_name (by decide +kernel)
theorem pf_126 : plainFor (mty 126) = true := plainFor_of_name (by decide +kernel)
theorem pf_127 : plainFor (mty 127) = true := plainFor_of_name (by decide +kernel)
theorem pf_128 : plainFor (mty 128) = true := plainFor_of_name (by decide +kernel)
theorem pf_129 : plainFor (mty 129) = true := plainFor_of_name (by decide +kernel)
theorem pf_130 : plainFor (mty 130) = true := plainFor_of_name (by decide +kernel)
theorem pf_131 : plainFor (mty 131) = true := plainFor_of_name (by decide +kernel)
theorem pf_132 : plainFor (mty 132) = true := plainFor_of_name (by decide +kernel)
theorem pf_133 : plainFor (mty 133) = true := plainFor_of_name (by decide +kernel)
theorem pf_134 : plainFor (mty 134) = true := plainFor_of_name (by decide +kernel)
theorem pf_135 : plainFor (mty 135) = true := plainFor_of_name (by decide +kernel)
theorem pf_136 : plainFor (mty 136) = true := plainFor_of_name (by decide +kernel)
theorem pf_137 : plainFor (mty 137) = true := plainFor_of_name (by decide +kernel)
theorem pf_138 : plainFor (mty 138) = true := plainFor_of_name (by decide +kernel)
theorem pf_139 : plainFor (mty 139) = true := plainFor_of_name (by decide +kernel)
theorem pf_140 : plainFor (mty 140) = true := plainFor_of_name (by decide +kernel)
theorem pf_141 : plainFor (mty 141) = true := plainFor_of_name (by decide +kernel)
theorem pf_142 : plainFor (mty 142) = true := plainFor_of_name (by decide +kernel)
theorem pf_143 : plainFor (mty 143) = true := plainFor_of_name (by decide +kernel)
theorem pf_144 : plainFor (mty 144) = true := plainFor_of_name (by decide +kernel)
theorem pf_145 : plainFor (mty 145) = true := plainFor_of_name (by decide +kernel)
theorem pf_146 : plainFor (mty 146) = true := plainFor_of_name (by decide +kernel)
theorem pf_147 : plainFor (mty 147) = true := plainFor_of_name (by decide +kernel)
theorem pf_148 : plainFor (mty 148) = true := plainFor_of_name (by decide +kernel)
theorem pf_149 : plainFor (mty 149) = true := plainFor_of_name (by decide +kernel)
theorem pf_150 : plainFor (mty 150) = true := plainFor_of_name (by decide +kernel)
theorem pf_151 : plainFor (mty 151) = true := plainFor_of_name (by decide +kernel)
theorem pf_152 : plainFor (mty 152) = true := plainFor_of_name (by decide +kernel)
theorem pf_153 : plainFor (mty 153) = true := plainFor_of_name (by decide +kernel)
theorem pf_154 : plainFor (mty 154) = true := plainFor_of_name (by decide +kernel)
theorem pf_155 : plainFor (mty 155) = true := plainFor_of_name (by decide +kernel)
theorem pf_156 : plainFor (mty 156) = true := plainFor_of_name (by decide +kernel)
theorem pf_157 : plainFor (mty 157) = true := plainFor_of_name (by decide +kernel)
theorem pf_158 : plainFor (mty 158) = true := plainFor_of_name (by decide +kernel)
theorem pf_159 : plainFor (mty 159) = true := plainFor_of_name (by decide +kernel)
theorem pf_160 : plainFor (mty 160) = true := plainFor_of_name (by decide +kernel)
theorem pf_161 : plainFor (mty 161) = true := plainFor_of_name (by decide +kernel)
theorem pf_162 : plainFor (mty 162) = true := plainFor_of_name (by decide +kernel)
theorem pf_163 : plainFor (mty 163) = true := plainFor_of_name (by decide +kernel)
theorem pf_164 : plainFor (mty 164) = true := plainFor_of_name (by decide +kernel)
theorem pf_165 : plainFor (mty 165) = true := plainFor_of_name (by decide +kernel)
theorem pf_166 : plainFor (mty 166) = true := plainFor_of_name (by decide +kernel)
theorem pf_167 : plainFor (mty 167) = true := plainFor_of_name (by decide +kernel)
theorem pf_168 : plainFor (mty 168) = true := plainFor_of_name (by decide +kernel)
theorem pf_169 : plainFor (mty 169) = true := plainFor_of_name (by decide +kernel)
theorem pf_170 : plainFor (mty 170) = true := plainFor_of_name (by decide +kernel)
theorem pf_171 : plainFor (mty 171) = true := plainFor_of_name (by decide +kernel)
theorem pf_172 : plainFor (mty 172) = true := plainFor_of_name (by decide +kernel)
theorem pf_173 : plainFor (mty 173) = true := plainFor_of_name (by decide +kernel)
theorem pf_174 : plainFor (mty 174) = true := plainFor_of_name (by decide +kernel)
theorem pf_175 : plainFor (mty 175) = true := plainFor_of_name (by decide +kernel)
theorem pf_176 : plainFor (mty 176) = true := plainFor_of_name (by decide +kernel)
theorem pf_177 : plainFor (mty 177) = true := plainFor_of_name (by decide +kernel)
theorem pf_178 : plainFor (mty 178) = true := plainFor_of_name (by decide +kernel)
theorem pf_179 : plainFor (mty 179) = true := plainFor_of_name (by decide +kernel)
theorem pf_180 : plainFor (mty 180) = true := plainFor_of_name (by decide +kernel)
theorem pf_181 : plainFor (mty 181) = true := plainFor_of_name (by decide +kernel)
theorem pf_182 : plainFor (mty 182) = true := plainFor_of_name (by decide +kernel)
theorem pf_183 : plainFor (mty 183) = true := plainFor_of_name (by decide +kernel)
theorem pf_184 : plainFor (mty 184) = true := plainFor_of_name (by decide +kernel)
theorem pf_185 : plainFor (mty 185) = true := plainFor_of_name (by decide +kernel)
theorem pf_186 : plainFor (mty 186) = true := plainFor_of_name (by decide +kernel)
theorem pf_187 : plainFor (mty 187) = true := plainFor_of_name (by decide +kernel)
theorem pf_188 : plainFor (mty 188) = true := plainFor_of_name (by decide +kernel)
theorem pf_189 : plainFor (mty 189) = true := plainFor_of_name (by decide +kernel)
theorem pf_190 : plainFor (mty 190) = true := plainFor_of_name (by decide +kernel)
theorem pf_191 : plainFor (mty 191) = true := plainFor_of_name (by decide +kernel)
theorem pf_192 : plainFor (mty 192) = true := plainFor_of_name (by decide +kernel)
theorem pf_193 : plainFor (mty 193) = true := plainFor_of_name (by decide +kernel)
theorem pf_194 : plainFor (mty 194) = true := plainFor_of_name (by decide +kernel)
theorem pf_195 : plainFor (mty 195) = true := plainFor_of_name (by decide +kernel)
theorem pf_196 : plainFor (mty 196) = true := plainFor_of_name (by decide +kernel)
theorem pf_197 : plainFor (mty 197) = true := plainFor_of_name (by decide +kernel)
theorem pf_198 : plainFor (mty 198) = true := plainFor_of_name (by decide +kernel)
theorem pf_199 : plainFor (mty 199) = true := plainFor_of_name (by decide +kernel)
theorem pf_200 : plainFor (mty 200) = true := plainFor_of_name (by decide +kernel)
theorem pf_201 : plainFor (mty 201) = true := plainFor_of_name (by decide +kernel)
theorem pf_202 : plainFor (mty 202) = true := plainFor_of_name (by decide +kernel)
theorem pf_203 : plainFor (mty 203) = true := plainFor_of_name (by decide +kernel)
theorem pf_204 : plainFor (mty 204) = true := plainFor_of_name (by decide +kernel)
theorem pf_205 : plainFor (mty 205) = true := plainFor_of_name (by decide +kernel)
theorem pf_206 : plainFor (mty 206) = true := plainFor_of_name (by decide +kernel)
theorem pf_207 : plainFor (mty 207) = true := plainFor_of_name (by decide +kernel)
theorem pf_208 : plainFor (mty 208) = true := plainFor_of_name (by decide +kernel)
theorem pf_209 : plainFor (mty 209) = true := plainFor_of_name (by decide +kernel)
theorem pf_210 : plainFor (mty 210) = true := plainFor_of_name (by decide +kernel)
theorem pf_211 : plainFor (mty 211) = true := plainFor_of_name (by decide +kernel)
theorem pf_212 : plainFor (mty 212) = true := plainFor_of_name (by decide +kernel)
theorem pf_213 : plainFor (mty 213) = true := plainFor_of_name (by decide +kernel)
theorem pf_214 : plainFor (mty 214) = true := plainFor_of_name (by decide +kernel)
theorem pf_215 : plainFor (mty 215) = true := plainFor_of_name (by decide +kernel)
theorem pf_216 : plainFor (mty 216) = true := plainFor_of_name (by decide +kernel)
theorem pf_217 : plainFor (mty 217) = true := plainFor_of_name (by decide +kernel)
theorem pf_218 : plainFor (mty 218) = true := plainFor_of_name (by decide +kernel)
theorem pf_219 : plainFor (mty 219) = true := plainFor_of_name (by decide +kernel)
theorem pf_220 : plainFor (mty 220) = true := plainFor_of_name (by decide +kernel)
theorem pf_221 : plainFor (mty 221) = true := plainFor_of_name (by decide +kernel)
theorem pf_222 : plainFor (mty 222) = true := plainFor_of_name (by decide +kernel)
theorem pf_223 : plainFor (mty 223) = true := plainFor_of_name (by decide +kernel)
theorem pf_224 : plainFor (mty 224) = true := plainFor_of_name (by decide +kernel)
theorem pf_225 : plainFor (mty 225) = true := plainFor_of_name (by decide +kernel)
theorem pf_226 : plainFor (mty 226) = true := plainFor_of_name (by decide +kernel)
theorem pf_227 : plainFor (mty 227) = true := plainFor_of_name (by decide +kernel)
theorem pf_228 : plainFor (mty 228) = true := plainFor_of_name (by decide +kernel)
theorem pf_229 : plainFor (mty 229) = true := plainFor_of_name (by decide +kernel)
theorem pf_230 : plainFor (mty 230) = true := plainFor_of_name (by decide +kernel)
theorem pf_231 : plainFor (mty 231) = true := plainFor_of_name (by decide +kernel)
theorem pf_232 : plainFor (mty 232) = true := plainFor_of_name (by decide +kernel)
theorem pf_233 : plainFor (mty 233) = true := plainFor_of_name (by decide +kernel)
theorem pf_234 : plainFor (mty 234) = true := plainFor_of_name (by decide +kernel)
theorem pf_235 : plainFor (mty 235) = true := plainFor_of_name (by decide +kernel)
theorem pf_236 : plainFor (mty 236) = true := plainFor_of_name (by decide +kernel)
theorem pf_237 : plainFor (mty 237) = true := plainFor_of_name (by decide +kernel)
theorem pf_238 : plainFor (mty 238) = true := plainFor_of_name (by decide +kernel)
theorem pf_239 : plainFor (mty 239) = true := plainFor_of_name (by decide +kernel)
theorem pf_240 : plainFor (mty 240) = true := plainFor_of_name (by decide +kernel)
theorem pf_241 : plainFor (mty 241) = true := plainFor_of_name (by decide +kernel)
theorem pf_242 : plainFor (mty 242) = true := plainFor_of_name (by decide +kernel)
theorem pf_243 : plainFor (mty 243) = true := plainFor_of_name (by decide +kernel)
theorem pf_244 : plainFor (mty 244) = true := plainFor_of_name (by decide +kernel)
theorem pf_245 : plainFor (mty 245) = true := plainFor_of_name (by decide +kernel)
theorem pf_246 : plainFor (mty 246) = true := plainFor_of_name (by decide +kernel)
theorem pf_247 : plainFor (mty 247) = true := plainFor_of_name (by decide +kernel)
theorem pf_248 : plainFor (mty 248) = true := plainFor_of_name (by decide +kernel)
theorem pf_249 : plainFor (mty 249) = true := plainFor_of_name (by decide +kernel)
theorem pf_250 : plainFor (mty 250) = true := plainFor_of_name (by decide +kernel)
theorem pf_251 : plainFor (mty 251) = true := plainFor_of_name (by decide +kernel)
theorem pf_252 : plainFor (mty 252) = true := plainFor_of_name (by decide +kernel)
theorem pf_253 : plainFor (mty 253) = true := plainFor_of_name (by decide +kernel)
theorem pf_254 : plainFor (mty 254) = true := plainFor_of_name (by decide +kernel)
theorem pf_255 : plainFor (mty 255) = true := plainFor_of_name (by decide +kernel)
theorem pf_256 : plainFor (mty 256) = true := plainFor_of_name (by decide +kernel)
theorem pf_257 : plainFor (mty 257) = true := plainFor_of_name (by decide +kernel)
theorem pf_258 : plainFor (mty 258) = true := plainFor_of_name (by decide +kernel)
theorem pf_259 : plainFor (mty 259) = true := plainFor_of_name (by decide +kernel)
def mcP (j : Nat) : Prop := Cond.code (mty j) (mby j) (tab j).1 (mre j) ∈ gtbl ∧ plainFor (mty j) = true
theorem mcp_0 : ∀ j, 1 ≤ j → j < 21 → mcP j := by
  intro j h1 h2
  rcases (show j = 1 ∨ j = 2 ∨ j = 3 ∨ j = 4 ∨ j = 5 ∨ j = 6 ∨ j = 7 ∨ j = 8 ∨ j = 9 ∨ j = 10 ∨ j = 11 ∨ j = 12 ∨ j = 13 ∨ j = 14 ∨ j = 15 ∨ j = 16 ∨ j = 17 ∨ j = 18 ∨ j = 19 ∨ j = 20 by omega) with rfl | rfl | rfl | rfl | rfl | rfl | rfl | rfl | rfl | rfl | rfl | rfl | rfl | rfl | rfl | rfl | rfl | rfl | rfl | rfl
  · exact ⟨List.mem_filter.mpr ⟨mc_1, rfl⟩, pf_1⟩
  · exact ⟨List.mem_filter.mpr ⟨mc_2, rfl⟩, pf_2⟩
  · exact ⟨List.mem_filter.mpr ⟨mc_3, rfl⟩, pf_3⟩
  · exact ⟨List.mem_filter.mpr ⟨mc_4, rfl⟩, pf_4⟩
  · exact ⟨List.mem_filter.mpr ⟨mc_5, rfl⟩, pf_5⟩
  · exact ⟨List.mem_filter.mpr ⟨mc_6, rfl⟩, pf_6⟩
  · exact ⟨List.mem_filter.mpr ⟨mc_7, rfl⟩, pf_7⟩
  · exact ⟨List.mem_filter.mpr ⟨mc_8, rfl⟩, pf_8⟩
  · exact ⟨List.mem_filter.mpr ⟨mc_9, rfl⟩, pf_9⟩
  · exact ⟨List.mem_filter.mpr ⟨mc_10, rfl⟩, pf_10⟩
  · exact ⟨List.mem_filter.mpr ⟨mc_11, rfl⟩, pf_11⟩
  · exact ⟨List.mem_filter.mpr ⟨mc_12, rfl⟩, pf_12⟩
  · exact ⟨List.mem_filter.mpr ⟨mc_13, rfl⟩, pf_13⟩
  · exact ⟨List.mem_filter.mpr ⟨mc_14, rfl⟩, pf_14⟩
  · exact ⟨List.mem_filter.mpr ⟨mc_15, rfl⟩, pf_15⟩
  · exact ⟨List.mem_filter.mpr ⟨mc_16, rfl⟩, pf_16⟩
  · exact ⟨List.mem_filter.mpr ⟨mc_17, rfl⟩, pf_17⟩
  · exact ⟨List.mem_filter.mpr ⟨mc_18, rfl⟩, pf_18⟩
  · exact ⟨List.mem_filter.mpr ⟨mc_19, rfl⟩, pf_19⟩
  · exact ⟨List.mem_filter.mpr ⟨mc_20, rfl⟩, pf_20⟩
theorem mcp_1 : ∀ j, 21 ≤ j → j < 41 → mcP j := by
  intro j h1 h2
  rcases (show j = 21 ∨ j = 22 ∨ j = 23 ∨ j = 24 ∨ j = 25 ∨ j = 26 ∨ j = 27 ∨ j = 28 ∨ j = 29 ∨ j = 30 ∨ j = 31 ∨ j = 32 ∨ j = 33 ∨ j = 34 ∨ j = 35 ∨ j = 36 ∨ j = 37 ∨ j = 38 ∨ j = 39 ∨ j = 40 by omega) with rfl | rfl | rfl | rfl | rfl | rfl | rfl | rfl | rfl | rfl | rfl | rfl | rfl | rfl | rfl | rfl | rfl | rfl | rfl | rfl
  · exact ⟨List.mem_filter.mpr ⟨mc_21, rfl⟩, pf_21⟩
  · exact ⟨List.mem_filter.mpr ⟨mc_22, rfl⟩, pf_22⟩
  · exact ⟨List.mem_filter.mpr ⟨mc_23, rfl⟩, pf_23⟩
  · exact ⟨List.mem_filter.mpr ⟨mc_24, rfl⟩, pf_24⟩
  · exact ⟨List.mem_filter.mpr ⟨mc_25, rfl⟩, pf_25⟩
  · exact ⟨List.mem_filter.mpr ⟨mc_26, rfl⟩, pf_26⟩
  · exact ⟨List.mem_filter.mpr ⟨mc_27, rfl⟩, pf_27⟩
  · exact ⟨List.mem_filter.mpr ⟨mc_28, rfl⟩, pf_28⟩
  · exact ⟨List.mem_filter.mpr ⟨mc_29, rfl⟩, pf_29⟩
  · exact ⟨List.mem_filter.mpr ⟨mc_30, rfl⟩, pf_30⟩
  · exact ⟨List.mem_filter.mpr ⟨mc_31, rfl⟩, pf_31⟩
  · exact ⟨List.mem_filter.mpr ⟨mc_32, rfl⟩, pf_32⟩
  · exact ⟨List.mem_filter.mpr ⟨mc_33, rfl⟩, pf_33⟩
  · exact ⟨List.mem_filter.mpr ⟨mc_34, rfl⟩, pf_34⟩
  · exact ⟨List.mem_filter.mpr ⟨mc_35, rfl⟩, pf_35⟩
  · exact ⟨List.mem_filter.mpr ⟨mc_36, rfl⟩, pf_36⟩
  · exact ⟨List.mem_filter.mpr ⟨mc_37, rfl⟩, pf_37⟩
  · exact ⟨List.mem_filter.mpr ⟨mc_38, rfl⟩, pf_38⟩
  · exact ⟨List.mem_filter.mpr ⟨mc_39, rfl⟩, pf_39⟩
  · exact ⟨List.mem_filter.mpr ⟨mc_40, rfl⟩, pf_40⟩
theorem mcp_2 : ∀ j, 41 ≤ j → j < 61 → mcP j := by
  intro j h1 h2
  rcases (show j = 41 ∨ j = 42 ∨ j = 43 ∨ j = 44 ∨ j = 45 ∨ j = 46 ∨ j = 47 ∨ j = 48 ∨ j = 49 ∨ j = 50 ∨ j = 51 ∨ j = 52 ∨ j = 53 ∨ j = 54 ∨ j = 55 ∨ j = 56 ∨ j = 57 ∨ j = 58 ∨ j = 59 ∨ j = 60 by omega) with rfl | rfl | rfl | rfl | rfl | rfl | rfl | rfl | rfl | rfl | rfl | rfl | rfl | rfl | rfl | rfl | rfl | rfl | rfl | rfl
  · exact ⟨List.mem_filter.mpr ⟨mc_41, rfl⟩, pf_41⟩
  · exact ⟨List.mem_filter.mpr ⟨mc_42, rfl⟩, pf_42⟩
  · exact ⟨List.mem_filter.mpr ⟨mc_43, rfl⟩, pf_43⟩
  · exact ⟨List.mem_filter.mpr ⟨mc_44, rfl⟩, pf_44⟩
  · exact ⟨List.mem_filter.mpr ⟨mc_45, rfl⟩, pf_45⟩
  · exact ⟨List.mem_filter.mpr ⟨mc_46, rfl⟩, pf_46⟩
  · exact ⟨List.mem_filter.mpr ⟨mc_47, rfl⟩, pf_47⟩
  · exact ⟨List.mem_filter.mpr ⟨mc_48, rfl⟩, pf_48⟩
  · exact ⟨List.mem_filter.mpr ⟨mc_49, rfl⟩, pf_49⟩
  · exact ⟨List.mem_filter.mpr ⟨mc_50, rfl⟩, pf_50⟩
  · exact ⟨List.mem_filter.mpr ⟨mc_51, rfl⟩, pf_51⟩
  · exact ⟨List.mem_filter.mpr ⟨mc_52, rfl⟩, pf_52⟩
  · exact ⟨List.mem_filter.mpr ⟨mc_53, rfl⟩, pf_53⟩
  · exact ⟨List.mem_filter.mpr ⟨mc_54, rfl⟩, pf_54⟩
  · exact ⟨List.mem_filter.mpr ⟨mc_55, rfl⟩, pf_55⟩
  · exact ⟨List.mem_filter.mpr ⟨mc_56, rfl⟩, pf_56⟩
  · exact ⟨List.mem_filter.mpr ⟨mc_57, rfl⟩, pf_57⟩
  · exact ⟨List.mem_filter.mpr ⟨mc_58, rfl⟩, pf_58⟩
  · exact ⟨List.mem_filter.mpr ⟨mc_59, rfl⟩, pf_59⟩
  · exact ⟨List.mem_filter.mpr ⟨mc_60, rfl⟩, pf_60⟩
theorem mcp_3 : ∀ j, 61 ≤ j → j < 81 → mcP j := by
  intro j h1 h2
  rcases (show j = 61 ∨ j = 62 ∨ j = 63 ∨ j = 64 ∨ j = 65 ∨ j = 66 ∨ j = 67 ∨ j = 68 ∨ j = 69 ∨ j = 70 ∨ j = 71 ∨ j = 72 ∨ j = 73 ∨ j = 74 ∨ j = 75 ∨ j = 76 ∨ j = 77 ∨ j = 78 ∨ j = 79 ∨ j = 80 by omega) with rfl | rfl | rfl | rfl | rfl | rfl | rfl | rfl | rfl | rfl | rfl | rfl | rfl | rfl | rfl | rfl | rfl | rfl | rfl | rfl
  · exact ⟨List.mem_filter.mpr ⟨mc_61, rfl⟩, pf_61⟩
  · exact ⟨List.mem_filter.mpr ⟨mc_62, rfl⟩, pf_62⟩
  · exact ⟨List.mem_filter.mpr ⟨mc_63, rfl⟩, pf_63⟩
  · exact ⟨List.mem_filter.mpr ⟨mc_64, rfl⟩, pf_64⟩
  · exact ⟨List.mem_filter.mpr ⟨mc_65, rfl⟩, pf_65⟩
  · exact ⟨List.mem_filter.mpr ⟨mc_66, rfl⟩, pf_66⟩
  · exact ⟨List.mem_filter.mpr ⟨mc_67, rfl⟩, pf_67⟩
  · exact ⟨List.mem_filter.mpr ⟨mc_68, rfl⟩, pf_68⟩
  · exact ⟨List.mem_filter.mpr ⟨mc_69, rfl⟩, pf_69⟩
  · exact ⟨List.mem_filter.mpr ⟨mc_70, rfl⟩, pf_70⟩
  · exact ⟨List.mem_filter.mpr ⟨mc_71, rfl⟩, pf_71⟩
  · exact ⟨List.mem_filter.mpr ⟨mc_72, rfl⟩, pf_72⟩
  · exact ⟨List.mem_filter.mpr ⟨mc_73, rfl⟩, pf_73⟩
  · exact ⟨List.mem_filter.mpr ⟨mc_74, rfl⟩, pf_74⟩
  · exact ⟨List.mem_filter.mpr ⟨mc_75, rfl⟩, pf_75⟩
  · exact ⟨List.mem_filter.mpr ⟨mc_76, rfl⟩, pf_76⟩
  · exact ⟨List.mem_filter.mpr ⟨mc_77, rfl⟩, pf_77⟩
  · exact ⟨List.mem_filter.mpr ⟨mc_78, rfl⟩, pf_78⟩
  · exact ⟨List.mem_filter.mpr ⟨mc_79, rfl⟩, pf_79⟩
  · exact ⟨List.mem_filter.mpr ⟨mc_80, rfl⟩, pf_80⟩
theorem mcp_4 : ∀ j, 81 ≤ j → j < 101 → mcP j := by
  intro j h1 h2
  rcases (show j = 81 ∨ j = 82 ∨ j = 83 ∨ j = 84 ∨ j = 85 ∨ j = 86 ∨ j = 87 ∨ j = 88 ∨ j = 89 ∨ j = 90 ∨ j = 91 ∨ j = 92 ∨ j = 93 ∨ j = 94 ∨ j = 95 ∨ j = 96 ∨ j = 97 ∨ j = 98 ∨ j = 99 ∨ j = 100 by omega) with rfl | rfl | rfl | rfl | rfl | rfl | rfl | rfl | rfl | rfl | rfl | rfl | rfl | rfl | rfl | rfl | rfl | rfl | rfl | rfl
  · exact ⟨List.mem_filter.mpr ⟨mc_81, rfl⟩, pf_81⟩
  · exact ⟨List.mem_filter.mpr ⟨mc_82, rfl⟩, pf_82⟩
  · exact ⟨List.mem_filter.mpr ⟨mc_83, rfl⟩, pf_83⟩
  · exact ⟨List.mem_filter.mpr ⟨mc_84, rfl⟩, pf_84⟩
  · exact ⟨List.mem_filter.mpr ⟨mc_85, rfl⟩, pf_85⟩
  · exact ⟨List.mem_filter.mpr ⟨mc_86, rfl⟩, pf_86⟩
  · exact ⟨List.mem_filter.mpr ⟨mc_87, rfl⟩, pf_87⟩
  · exact ⟨List.mem_filter.mpr ⟨mc_88, rfl⟩, pf_88⟩
  · exact ⟨List.mem_filter.mpr ⟨mc_89, rfl⟩, pf_89⟩
  · exact ⟨List.mem_filter.mpr ⟨mc_90, rfl⟩, pf_90⟩
  · exact ⟨List.mem_filter.mpr ⟨mc_91, rfl⟩, pf_91⟩
  · exact ⟨List.mem_filter.mpr ⟨mc_92, rfl⟩, pf_92⟩
  · exact ⟨List.mem_filter.mpr ⟨mc_93, rfl⟩, pf_93⟩
  · exact ⟨List.mem_filter.mpr ⟨mc_94, rfl⟩, pf_94⟩
  · exact ⟨List.mem_filter.mpr ⟨mc_95, rfl⟩, pf_95⟩
  · exact ⟨List.mem_filter.mpr ⟨mc_96, rfl⟩, pf_96⟩
  · exact ⟨List.mem_filter.mpr ⟨mc_97, rfl⟩, pf_97⟩
  · exact ⟨List.mem_filter.mpr ⟨mc_98, rfl⟩, pf_98⟩
  · exact ⟨List.mem_filter.mpr ⟨mc_99, rfl⟩, pf_99⟩
  · exact ⟨List.mem_filter.mpr ⟨mc_100, rfl⟩, pf_100⟩
theorem mcp_5 : ∀ j, 101 ≤ j → j < 121 → mcP j := by
  intro j h1 h2
  rcases (show j = 101 ∨ j = 102 ∨ j = 103 ∨ j = 104 ∨ j = 105 ∨ j = 106 ∨ j = 107 ∨ j = 108 ∨ j = 109 ∨ j = 110 ∨ j = 111 ∨ j = 112 ∨ j = 113 ∨ j = 114 ∨ j = 115 ∨ j = 116 ∨ j = 117 ∨ j = 118 ∨ j = 119 ∨ j = 120 by omega) with rfl | rfl | rfl | rfl | rfl | rfl | rfl | rfl | rfl | rfl | rfl | rfl | rfl | rfl | rfl | rfl | rfl | rfl | rfl | rfl
  · exact ⟨List.mem_filter.mpr ⟨mc_101, rfl⟩, pf_101⟩
  · exact ⟨List.mem_filter.mpr ⟨mc_102, rfl⟩, pf_102⟩
  · exact ⟨List.mem_filter.mpr ⟨mc_103, rfl⟩, pf_103⟩
  · exact ⟨List.mem_filter.mpr ⟨mc_104, rfl⟩, pf_104⟩
  · exact ⟨List.mem_filter.mpr ⟨mc_105, rfl⟩, pf_105⟩
  · exact ⟨List.mem_filter.mpr ⟨mc_106, rfl⟩, pf_106⟩
  · exact ⟨List.mem_filter.mpr ⟨mc_107, rfl⟩, pf_107⟩
  · exact ⟨List.mem_filter.mpr ⟨mc_108, rfl⟩, pf_108⟩
  · exact ⟨List.mem_filter.mpr ⟨mc_109, rfl⟩, pf_109⟩
  · exact ⟨List.mem_filter.mpr ⟨mc_110, rfl⟩, pf_110⟩
  · exact ⟨List.mem_filter.mpr ⟨mc_111, rfl⟩, pf_111⟩
  · exact ⟨List.mem_filter.mpr ⟨mc_112, rfl⟩, pf_112⟩
  · exact ⟨List.mem_filter.mpr ⟨mc_113, rfl⟩, pf_113⟩
  · exact ⟨List.mem_filter.mpr ⟨mc_114, rfl⟩, pf_114⟩
  · exact ⟨List.mem_filter.mpr ⟨mc_115, rfl⟩, pf_115⟩
  · exact ⟨List.mem_filter.mpr ⟨mc_116, rfl⟩, pf_116⟩
  · exact ⟨List.mem_filter.mpr ⟨mc_117, rfl⟩, pf_117⟩
  · exact ⟨List.mem_filter.mpr ⟨mc_118, rfl⟩, pf_118⟩
  · exact ⟨List.mem_filter.mpr ⟨mc_119, rfl⟩, pf_119⟩
  · exact ⟨List.mem_filter.mpr ⟨mc_120, rfl⟩, pf_120⟩
theorem mcp_6 : ∀ j, 121 ≤ j → j < 141 → mcP j := by
  intro j h1 h2
  rcases (show j = 121 ∨ j = 122 ∨ j = 123 ∨ j = 124 ∨ j = 125 ∨ j = 126 ∨ j = 127 ∨ j = 128 ∨ j = 129 ∨ j = 130 ∨ j = 131 ∨ j = 132 ∨ j = 133 ∨ j = 134 ∨ j = 135 ∨ j = 136 ∨ j = 137 ∨ j = 138 ∨ j = 139 ∨ j = 140 by omega) with rfl | rfl | rfl | rfl | rfl | rfl | rfl | rfl | rfl | rfl | rfl | rfl | rfl | rfl | rfl | rfl | rfl | rfl | rfl | rfl
  · exact ⟨List.mem_filter.mpr ⟨mc_121, rfl⟩, pf_121⟩
  · exact ⟨List.mem_filter.mpr ⟨mc_122, rfl⟩, pf_122⟩
  · exact ⟨List.mem_filter.mpr ⟨mc_123, rfl⟩, pf_123⟩
  · exact ⟨List.mem_filter.mpr ⟨mc_124, rfl⟩, pf_124⟩
  · exact ⟨List.mem_filter.mpr ⟨mc_125, rfl⟩, pf_125⟩
  · exact ⟨List.mem_filter.mpr ⟨mc_126, rfl⟩, pf_126⟩
  · exact ⟨List.mem_filter.mpr ⟨mc_127, rfl⟩, pf_127⟩
  · exact ⟨List.mem_filter.mpr ⟨mc_128, rfl⟩, pf_128⟩
  · exact ⟨List.mem_filter.mpr ⟨mc_129, rfl⟩, pf_129⟩
  · exact ⟨List.mem_filter.mpr ⟨mc_130, rfl⟩, pf_130⟩
  · exact ⟨List.mem_filter.mpr ⟨mc_131, rfl⟩, pf_131⟩
  · exact ⟨List.mem_filter.mpr ⟨mc_132, rfl⟩, pf_132⟩
  · exact ⟨List.mem_filter.mpr ⟨mc_133, rfl⟩, pf_133⟩
  · exact ⟨List.mem_filter.mpr ⟨mc_134, rfl⟩, pf_134⟩
  · exact ⟨List.mem_filter.mpr ⟨mc_135, rfl⟩, pf_135⟩
  · exact ⟨List.mem_filter.mpr ⟨mc_136, rfl⟩, pf_136⟩
  · exact ⟨List.mem_filter.mpr ⟨mc_137, rfl⟩, pf_137⟩
  · exact ⟨List.mem_filter.mpr ⟨mc_138, rfl⟩, pf_138⟩
  · exact ⟨List.mem_filter.mpr ⟨mc_139, rfl⟩, pf_139⟩
  · exact ⟨List.mem_filter.mpr ⟨mc_140, rfl⟩, pf_140⟩
theorem mcp_7 : ∀ j, 141 ≤ j → j < 161 → mcP j := by
  intro j h1 h2
  rcases (show j = 141 ∨ j = 142 ∨ j = 143 ∨ j = 144 ∨ j = 145 ∨ j = 146 ∨ j = 147 ∨ j = 148 ∨ j = 149 ∨ j = 150 ∨ j = 151 ∨ j = 152 ∨ j = 153 ∨ j = 154 ∨ j = 155 ∨ j = 156 ∨ j = 157 ∨ j = 158 ∨ j = 159 ∨ j = 160 by omega) with rfl | rfl | rfl | rfl | rfl | rfl | rfl | rfl | rfl | rfl | rfl | rfl | rfl | rfl | rfl | rfl | rfl | rfl | rfl | rfl
  · exact ⟨List.mem_filter.mpr ⟨mc_141, rfl⟩, pf_141⟩
  · exact ⟨List.mem_filter.mpr ⟨mc_142, rfl⟩, pf_142⟩
  · exact ⟨List.mem_filter.mpr ⟨mc_143, rfl⟩, pf_143⟩
  · exact ⟨List.mem_filter.mpr ⟨mc_144, rfl⟩, pf_144⟩
  · exact ⟨List.mem_filter.mpr ⟨mc_145, rfl⟩, pf_145⟩
  · exact ⟨List.mem_filter.mpr ⟨mc_146, rfl⟩, pf_146⟩
  · exact ⟨List.mem_filter.mpr ⟨mc_147, rfl⟩, pf_147⟩
  · exact ⟨List.mem_filter.mpr ⟨mc_148, rfl⟩, pf_148⟩
  · exact ⟨List.mem_filter.mpr ⟨mc_149, rfl⟩, pf_149⟩
  · exact ⟨List.mem_filter.mpr ⟨mc_150, rfl⟩, pf_150⟩
  · exact ⟨List.mem_filter.mpr ⟨mc_151, rfl⟩, pf_151⟩
  · exact ⟨List.mem_filter.mpr ⟨mc_152, rfl⟩, pf_152⟩
  · exact ⟨List.mem_filter.mpr ⟨mc_153, rfl⟩, pf_153⟩
  · exact ⟨List.mem_filter.mpr ⟨mc_154, rfl⟩, pf_154⟩
  · exact ⟨List.mem_filter.mpr ⟨mc_155, rfl⟩, pf_155⟩
  · exact ⟨List.mem_filter.mpr ⟨mc_156, rfl⟩, pf_156⟩
  · exact ⟨List.mem_filter.mpr ⟨mc_157, rfl⟩, pf_157⟩
  · exact ⟨List.mem_filter.mpr ⟨mc_158, rfl⟩, pf_158⟩
  · exact ⟨List.mem_filter.mpr ⟨mc_159, rfl⟩, pf_159⟩
  · exact ⟨List.mem_filter.mpr ⟨mc_160, rfl⟩, pf_160⟩
theorem mcp_8 : ∀ j, 161 ≤ j → j < 181 → mcP j := by
  intro j h1 h2
  rcases (show j = 161 ∨ j = 162 ∨ j = 163 ∨ j = 164 ∨ j = 165 ∨ j = 166 ∨ j = 167 ∨ j = 168 ∨ j = 169 ∨ j = 170 ∨ j = 171 ∨ j = 172 ∨ j = 173 ∨ j = 174 ∨ j = 175 ∨ j = 176 ∨ j = 177 ∨ j = 178 ∨ j = 179 ∨ j = 180 by omega) with rfl | rfl | rfl | rfl | rfl | rfl | rfl | rfl | rfl | rfl | rfl | rfl | rfl | rfl | rfl | rfl | rfl | rfl | rfl | rfl
  · exact ⟨List.mem_filter.mpr ⟨mc_161, rfl⟩, pf_161⟩
  · exact ⟨List.mem_filter.mpr ⟨mc_162, rfl⟩, pf_162⟩
  · exact ⟨List.mem_filter.mpr ⟨mc_163, rfl⟩, pf_163⟩
  · exact ⟨List.mem_filter.mpr ⟨mc_164, rfl⟩, pf_164⟩
  · exact ⟨List.mem_filter.mpr ⟨mc_165, rfl⟩, pf_165⟩
  · exact ⟨List.mem_filter.mpr ⟨mc_166, rfl⟩, pf_166⟩
  · exact ⟨List.mem_filter.mpr ⟨mc_167, rfl⟩, pf_167⟩
  · exact ⟨List.mem_filter.mpr ⟨mc_168, rfl⟩, pf_168⟩
  · exact ⟨List.mem_filter.mpr ⟨mc_169, rfl⟩, pf_169⟩
  · exact ⟨List.mem_filter.mpr ⟨mc_170, rfl⟩, pf_170⟩
  · exact ⟨List.mem_filter.mpr ⟨mc_171, rfl⟩, pf_171⟩
  · exact ⟨List.mem_filter.mpr ⟨mc_172, rfl⟩, pf_172⟩
  · exact ⟨List.mem_filter.mpr ⟨mc_173, rfl⟩, pf_173⟩
  · exact ⟨List.mem_filter.mpr ⟨mc_174, rfl⟩, pf_174⟩
  · exact ⟨List.mem_filter.mpr ⟨mc_175, rfl⟩, pf_175⟩
  · exact ⟨List.mem_filter.mpr ⟨mc_176, rfl⟩, pf_176⟩
  · exact ⟨List.mem_filter.mpr ⟨mc_177, rfl⟩, pf_177⟩
  · exact ⟨List.mem_filter.mpr ⟨mc_178, rfl⟩, pf_178⟩
  · exact ⟨List.mem_filter.mpr ⟨mc_179, rfl⟩, pf_179⟩
  · exact ⟨List.mem_filter.mpr ⟨mc_180, rfl⟩, pf_180⟩
theorem mcp_9 : ∀ j, 181 ≤ j → j < 201 → mcP j := by
  intro j h1 h2
  rcases (show j = 181 ∨ j = 182 ∨ j = 183 ∨ j = 184 ∨ j = 185 ∨ j = 186 ∨ j = 187 ∨ j = 188 ∨ j = 189 ∨ j = 190 ∨ j = 191 ∨ j = 192 ∨ j = 193 ∨ j = 194 ∨ j = 195 ∨ j = 196 ∨ j = 197 ∨ j = 198 ∨ j = 199 ∨ j = 200 by omega) with rfl | rfl | rfl | rfl | rfl | rfl | rfl | rfl | rfl | rfl | rfl | rfl | rfl | rfl | rfl | rfl | rfl | rfl | rfl | rfl
  · exact ⟨List.mem_filter.mpr ⟨mc_181, rfl⟩, pf_181⟩
  · exact ⟨List.mem_filter.mpr ⟨mc_182, rfl⟩, pf_182⟩
  · exact ⟨List.mem_filter.mpr ⟨mc_183, rfl⟩, pf_183⟩
  · exact ⟨List.mem_filter.mpr ⟨mc_184, rfl⟩, pf_184⟩
  · exact ⟨List.mem_filter.mpr ⟨mc_185, rfl⟩, pf_185⟩
  · exact ⟨List.mem_filter.mpr ⟨mc_186, rfl⟩, pf_186⟩
  · exact ⟨List.mem_filter.mpr ⟨mc_187, rfl⟩, pf_187⟩
  · exact ⟨List.mem_filter.mpr ⟨mc_188, rfl⟩, pf_188⟩
  · exact ⟨List.mem_filter.mpr ⟨mc_189, rfl⟩, pf_189⟩
  · exact ⟨List.mem_filter.mpr ⟨mc_190, rfl⟩, pf_190⟩
  · exact ⟨List.mem_filter.mpr ⟨mc_191, rfl⟩, pf_191⟩
  · exact ⟨List.mem_filter.mpr ⟨mc_192, rfl⟩, pf_192⟩
  · exact ⟨List.mem_filter.mpr ⟨mc_193, rfl⟩, pf_193⟩
  · exact ⟨List.mem_filter.mpr ⟨mc_194, rfl⟩, pf_194⟩
  · exact ⟨List.mem_filter.mpr ⟨mc_195, rfl⟩, pf_195⟩
  · exact ⟨List.mem_filter.mpr ⟨mc_196, rfl⟩, pf_196⟩
  · exact ⟨List.mem_filter.mpr ⟨mc_197, rfl⟩, pf_197⟩
  · exact ⟨List.mem_filter.mpr ⟨mc_198, rfl⟩, pf_198⟩
  · exact ⟨List.mem_filter.mpr ⟨mc_199, rfl⟩, pf_199⟩
  · exact ⟨List.mem_filter.mpr ⟨mc_200, rfl⟩, pf_200⟩
theorem mcp_10 : ∀ j, 201 ≤ j → j < 221 → mcP j := by
  intro j h1 h2
  rcases (show j = 201 ∨ j = 202 ∨ j = 203 ∨ j = 204 ∨ j = 205 ∨ j = 206 ∨ j = 207 ∨ j = 208 ∨ j = 209 ∨ j = 210 ∨ j = 211 ∨ j = 212 ∨ j = 213 ∨ j = 214 ∨ j = 215 ∨ j = 216 ∨ j = 217 ∨ j = 218 ∨ j = 219 ∨ j = 220 by omega) with rfl | rfl | rfl | rfl | rfl | rfl | rfl | rfl | rfl | rfl | rfl | rfl | rfl | rfl | rfl | rfl | rfl | rfl | rfl | rfl
  · exact ⟨List.mem_filter.mpr ⟨mc_201, rfl⟩, pf_201⟩
  · exact ⟨List.mem_filter.mpr ⟨mc_202, rfl⟩, pf_202⟩
  · exact ⟨List.mem_filter.mpr ⟨mc_203, rfl⟩, pf_203⟩
  · exact ⟨List.mem_filter.mpr ⟨mc_204, rfl⟩, pf_204⟩
  · exact ⟨List.mem_filter.mpr ⟨mc_205, rfl⟩, pf_205⟩
  · exact ⟨List.mem_filter.mpr ⟨mc_206, rfl⟩, pf_206⟩
  · exact ⟨List.mem_filter.mpr ⟨mc_207, rfl⟩, pf_207⟩
  · exact ⟨List.mem_filter.mpr ⟨mc_208, rfl⟩, pf_208⟩
  · exact ⟨List.mem_filter.mpr ⟨mc_209, rfl⟩, pf_209⟩
  · exact ⟨List.mem_filter.mpr ⟨mc_210, rfl⟩, pf_210⟩
  · exact ⟨List.mem_filter.mpr ⟨mc_211, rfl⟩, pf_211⟩
  · exact ⟨List.mem_filter.mpr ⟨mc_212, rfl⟩, pf_212⟩
  · exact ⟨List.mem_filter.mpr ⟨mc_213, rfl⟩, pf_213⟩
  · exact ⟨List.mem_filter.mpr ⟨mc_214, rfl⟩, pf_214⟩
  · exact ⟨List.mem_filter.mpr ⟨mc_215, rfl⟩, pf_215⟩
  · exact ⟨List.mem_filter.mpr ⟨mc_216, rfl⟩, pf_216⟩
  · exact ⟨List.mem_filter.mpr ⟨mc_217, rfl⟩, pf_217⟩
  · exact ⟨List.mem_filter.mpr ⟨mc_218, rfl⟩, pf_218⟩
  · exact ⟨List.mem_filter.mpr ⟨mc_219, rfl⟩, pf_219⟩
  · exact ⟨List.mem_filter.mpr ⟨mc_220, rfl⟩, pf_220⟩
theorem mcp_11 : ∀ j, 221 ≤ j → j < 241 → mcP j := by
  intro j h1 h2
  rcases (show j = 221 ∨ j = 222 ∨ j = 223 ∨ j = 224 ∨ j = 225 ∨ j = 226 ∨ j = 227 ∨ j = 228 ∨ j = 229 ∨ j = 230 ∨ j = 231 ∨ j = 232 ∨ j = 233 ∨ j = 234 ∨ j = 235 ∨ j = 236 ∨ j = 237 ∨ j = 238 ∨ j = 239 ∨ j = 240 by omega) with rfl | rfl | rfl | rfl | rfl | rfl | rfl | rfl | rfl | rfl | rfl | rfl | rfl | rfl | rfl | rfl | rfl | rfl | rfl | rfl
  · exact ⟨List.mem_filter.mpr ⟨mc_221, rfl⟩, pf_221⟩
  · exact ⟨List.mem_filter.mpr ⟨mc_222, rfl⟩, pf_222⟩
  · exact ⟨List.mem_filter.mpr ⟨mc_223, rfl⟩, pf_223⟩
  · exact ⟨List.mem_filter.mpr ⟨mc_224, rfl⟩, pf_224⟩
  · exact ⟨List.mem_filter.mpr ⟨mc_225, rfl⟩, pf_225⟩
  · exact ⟨List.mem_filter.mpr ⟨mc_226, rfl⟩, pf_226⟩
  · exact ⟨List.mem_filter.mpr ⟨mc_227, rfl⟩, pf_227⟩
  · exact ⟨List.mem_filter.mpr ⟨mc_228, rfl⟩, pf_228⟩
  · exact ⟨List.mem_filter.mpr ⟨mc_229, rfl⟩, pf_229⟩
  · exact ⟨List.mem_filter.mpr ⟨mc_230, rfl⟩, pf_230⟩
  · exact ⟨List.mem_filter.mpr ⟨mc_231, rfl⟩, pf_231⟩
  · exact ⟨List.mem_filter.mpr ⟨mc_232, rfl⟩, pf_232⟩
  · exact ⟨List.mem_filter.mpr ⟨mc_233, rfl⟩, pf_233⟩
  · exact ⟨List.mem_filter.mpr ⟨mc_234, rfl⟩, pf_234⟩
  · exact ⟨List.mem_filter.mpr ⟨mc_235, rfl⟩, pf_235⟩
  · exact ⟨List.mem_filter.mpr ⟨mc_236, rfl⟩, pf_236⟩
  · exact ⟨List.mem_filter.mpr ⟨mc_237, rfl⟩, pf_237⟩
  · exact ⟨List.mem_filter.mpr ⟨mc_238, rfl⟩, pf_238⟩
  · exact ⟨List.mem_filter.mpr ⟨mc_239, rfl⟩, pf_239⟩
  · exact ⟨List.mem_filter.mpr ⟨mc_240, rfl⟩, pf_240⟩
theorem mcp_12 : ∀ j, 241 ≤ j → j < 260 → mcP j := by
  intro j h1 h2
  rcases (show j = 241 ∨ j = 242 ∨ j = 243 ∨ j = 244 ∨ j = 245 ∨ j = 246 ∨ j = 247 ∨ j = 248 ∨ j = 249 ∨ j = 250 ∨ j = 251 ∨ j = 252 ∨ j = 253 ∨ j = 254 ∨ j = 255 ∨ j = 256 ∨ j = 257 ∨ j = 258 ∨ j = 259 by omega) with rfl | rfl | rfl | rfl | rfl | rfl | rfl | rfl | rfl | rfl | rfl | rfl | rfl | rfl | rfl | rfl | rfl | rfl | rfl
  · exact ⟨List.mem_filter.mpr ⟨mc_241, rfl⟩, pf_241⟩
  · exact ⟨List.mem_filter.mpr ⟨mc_242, rfl⟩, pf_242⟩
  · exact ⟨List.mem_filter.mpr ⟨mc_243, rfl⟩, pf_243⟩
  · exact ⟨List.mem_filter.mpr ⟨mc_244, rfl⟩, pf_244⟩
  · exact ⟨List.mem_filter.mpr ⟨mc_245, rfl⟩, pf_245⟩
  · exact ⟨List.mem_filter.mpr ⟨mc_246, rfl⟩, pf_246⟩
  · exact ⟨List.mem_filter.mpr ⟨mc_247, rfl⟩, pf_247⟩
  · exact ⟨List.mem_filter.mpr ⟨mc_248, rfl⟩, pf_248⟩
  · exact ⟨List.mem_filter.mpr ⟨mc_249, rfl⟩, pf_249⟩
  · exact ⟨List.mem_filter.mpr ⟨mc_250, rfl⟩, pf_250⟩
  · exact ⟨List.mem_filter.mpr ⟨mc_251, rfl⟩, pf_251⟩
  · exact ⟨List.mem_filter.mpr ⟨mc_252, rfl⟩, pf_252⟩
  · exact ⟨List.mem_filter.mpr ⟨mc_253, rfl⟩, pf_253⟩
  · exact ⟨List.mem_filter.mpr ⟨mc_254, rfl⟩, pf_254⟩
  · exact ⟨List.mem_filter.mpr ⟨mc_255, rfl⟩, pf_255⟩
  · exact ⟨List.mem_filter.mpr ⟨mc_256, rfl⟩, pf_256⟩
  · exact ⟨List.mem_filter.mpr ⟨mc_257, rfl⟩, pf_257⟩
  · exact ⟨List.mem_filter.mpr ⟨mc_258, rfl⟩, pf_258⟩
  · exact ⟨List.mem_filter.mpr ⟨mc_259, rfl⟩, pf_259⟩
theorem mow_c : (List.range 260).all (fun j => Nat.beq j 0 || decide ((mty j).cls = onm (mow j))) = true := by decide +kernel
theorem mow_ok : ∀ j, 0 < j → j < 260 → (mty j).cls = onm (mow j) := by
  intro j h1 h2
  have h := List.all_eq_true.mp mow_c j (List.mem_range.mpr h2)
  simp only [Bool.or_eq_true, decide_eq_true_eq, Nat.beq_eq] at h
  exact h.resolve_left (by omega)
theorem mcp_ok : ∀ j, 0 < j → j < 260 → mcP j := by
  intro j h1 h2
  by_cases k0 : j < 21
  · exact mcp_0 j (by omega) k0
  by_cases k1 : j < 41
  · exact mcp_1 j (by omega) k1
  by_cases k2 : j < 61
  · exact mcp_2 j (by omega) k2
  by_cases k3 : j < 81
  · exact mcp_3 j (by omega) k3
  by_cases k4 : j < 101
  · exact mcp_4 j (by omega) k4
  by_cases k5 : j < 121
  · exact mcp_5 j (by omega) k5
  by_cases k6 : j < 141
  · exact mcp_6 j (by omega) k6
  by_cases k7 : j < 161
  · exact mcp_7 j (by omega) k7
  by_cases k8 : j < 181
  · exact mcp_8 j (by omega) k8
  by_cases k9 : j < 201
  · exact mcp_9 j (by omega) k9
  by_cases k10 : j < 221
  · exact mcp_10 j (by omega) k10
  by_cases k11 : j < 241
  · exact mcp_11 j (by omega) k11
  by_cases k12 : j < 260
  · exact mcp_12 j (by omega) k12
  exact absurd h2 (by omega)
