/-! every method: its rows are its code, and name what they say -/
theorem ckn_0_0 : chkN 0 50 ((tab 0).2.drop 0) = true := by decide +kernel
theorem ckn_0_50 : chkN 0 50 ((tab 0).2.drop 50) = true := by decide +kernel
theorem ckn_0_100 : chkN 0 50 ((tab 0).2.drop 100) = true := by decide +kernel
theorem ckn_0_150 : chkN 0 50 ((tab 0).2.drop 150) = true := by decide +kernel
theorem ckn_0_200 : chkN 0 50 ((tab 0).2.drop 200) = true := by decide +kernel
theorem ckn_0_250 : chkN 0 50 ((tab 0).2.drop 250) = true := by decide +kernel
theorem ckn_0_300 : chkN 0 50 ((tab 0).2.drop 300) = true := by decide +kernel
theorem ckn_0_350 : chkN 0 50 ((tab 0).2.drop 350) = true := by decide +kernel
theorem ckn_0_400 : chkN 0 50 ((tab 0).2.drop 400) = true := by decide +kernel
theorem ckn_0_450 : chkN 0 50 ((tab 0).2.drop 450) = true := by decide +kernel
theorem ckn_0_500 : chkN 0 50 ((tab 0).2.drop 500) = true := by decide +kernel
theorem ckn_0_550 : chkN 0 50 ((tab 0).2.drop 550) = true := by decide +kernel
theorem ckz_0_600 : chkL 0 ((tab 0).2.drop 600) = true := by decide +kernel
theorem ckz_0_550 : chkL 0 ((tab 0).2.drop 550) = true := chkN_L 0 50 _ ckn_0_550 (by rw [List.drop_drop]; exact ckz_0_600)
theorem ckz_0_500 : chkL 0 ((tab 0).2.drop 500) = true := chkN_L 0 50 _ ckn_0_500 (by rw [List.drop_drop]; exact ckz_0_550)
theorem ckz_0_450 : chkL 0 ((tab 0).2.drop 450) = true := chkN_L 0 50 _ ckn_0_450 (by rw [List.drop_drop]; exact ckz_0_500)
theorem ckz_0_400 : chkL 0 ((tab 0).2.drop 400) = true := chkN_L 0 50 _ ckn_0_400 (by rw [List.drop_drop]; exact ckz_0_450)
theorem ckz_0_350 : chkL 0 ((tab 0).2.drop 350) = true := chkN_L 0 50 _ ckn_0_350 (by rw [List.drop_drop]; exact ckz_0_400)
theorem ckz_0_300 : chkL 0 ((tab 0).2.drop 300) = true := chkN_L 0 50 _ ckn_0_300 (by rw [List.drop_drop]; exact ckz_0_350)
theorem ckz_0_250 : chkL 0 ((tab 0).2.drop 250) = true := chkN_L 0 50 _ ckn_0_250 (by rw [List.drop_drop]; exact ckz_0_300)
theorem ckz_0_200 : chkL 0 ((tab 0).2.drop 200) = true := chkN_L 0 50 _ ckn_0_200 (by rw [List.drop_drop]; exact ckz_0_250)
theorem ckz_0_150 : chkL 0 ((tab 0).2.drop 150) = true := chkN_L 0 50 _ ckn_0_150 (by rw [List.drop_drop]; exact ckz_0_200)
theorem ckz_0_100 : chkL 0 ((tab 0).2.drop 100) = true := chkN_L 0 50 _ ckn_0_100 (by rw [List.drop_drop]; exact ckz_0_150)
theorem ckz_0_50 : chkL 0 ((tab 0).2.drop 50) = true := chkN_L 0 50 _ ckn_0_50 (by rw [List.drop_drop]; exact ckz_0_100)
theorem ckz_0_0 : chkL 0 ((tab 0).2.drop 0) = true := chkN_L 0 50 _ ckn_0_0 (by rw [List.drop_drop]; exact ckz_0_50)
theorem cki_0 : incr (tab 0).2 = true := by decide +kernel
theorem ck_0 : chkJ 0 = true := by
  unfold chkJ
  rw [cki_0, Bool.and_true]
  exact ckz_0_0
theorem ck_1 : chkJ 1 = true := by decide +kernel
theorem ck_2 : chkJ 2 = true := by decide +kernel
theorem ck_3 : chkJ 3 = true := by decide +kernel
theorem ck_4 : chkJ 4 = true := by decide +kernel
theorem ck_5 : chkJ 5 = true := by decide +kernel
theorem ck_6 : chkJ 6 = true := by decide +kernel
theorem ck_7 : chkJ 7 = true := by decide +kernel
theorem ck_8 : chkJ 8 = true := by decide +kernel
theorem ck_9 : chkJ 9 = true := by decide +kernel
theorem ck_10 : chkJ 10 = true := by decide +kernel
theorem ck_11 : chkJ 11 = true := by decide +kernel
theorem ck_12 : chkJ 12 = true := by decide +kernel
theorem ck_13 : chkJ 13 = true := by decide +kernel
theorem ck_14 : chkJ 14 = true := by decide +kernel
theorem ck_15 : chkJ 15 = true := by decide +kernel
theorem ck_16 : chkJ 16 = true := by decide +kernel
theorem ck_17 : chkJ 17 = true := by decide +kernel
theorem ck_18 : chkJ 18 = true := by decide +kernel
theorem ck_19 : chkJ 19 = true := by decide +kernel
theorem ck_20 : chkJ 20 = true := by decide +kernel
theorem ck_21 : chkJ 21 = true := by decide +kernel
theorem ck_22 : chkJ 22 = true := by decide +kernel
theorem ck_23 : chkJ 23 = true := by decide +kernel
theorem ck_24 : chkJ 24 = true := by decide +kernel
theorem ck_25 : chkJ 25 = true := by decide +kernel
theorem ck_26 : chkJ 26 = true := by decide +kernel
theorem ck_27 : chkJ 27 = true := by decide +kernel
theorem ck_28 : chkJ 28 = true := by decide +kernel
theorem ck_29 : chkJ 29 = true := by decide +kernel
theorem ck_30 : chkJ 30 = true := by decide +kernel
theorem ck_31 : chkJ 31 = true := by decide +kernel
theorem ck_32 : chkJ 32 = true := by decide +kernel
theorem ck_33 : chkJ 33 = true := by decide +kernel
theorem ck_34 : chkJ 34 = true := by decide +kernel
theorem ck_35 : chkJ 35 = true := by decide +kernel
theorem ck_36 : chkJ 36 = true := by decide +kernel
theorem ck_37 : chkJ 37 = true := by decide +kernel
theorem ck_38 : chkJ 38 = true := by decide +kernel
theorem ck_39 : chkJ 39 = true := by decide +kernel
theorem ck_40 : chkJ 40 = true := by decide +kernel
theorem ck_41 : chkJ 41 = true := by decide +kernel
theorem ck_42 : chkJ 42 = true := by decide +kernel
theorem ck_43 : chkJ 43 = true := by decide +kernel
theorem ck_44 : chkJ 44 = true := by decide +kernel
theorem ck_45 : chkJ 45 = true := by decide +kernel
theorem ck_46 : chkJ 46 = true := by decide +kernel
theorem ck_47 : chkJ 47 = true := by decide +kernel
theorem ck_48 : chkJ 48 = true := by decide +kernel
theorem ck_49 : chkJ 49 = true := by decide +kernel
theorem ck_50 : chkJ 50 = true := by decide +kernel
theorem ck_51 : chkJ 51 = true := by decide +kernel
theorem ck_52 : chkJ 52 = true := by decide +kernel
theorem ck_53 : chkJ 53 = true := by decide +kernel
theorem ck_54 : chkJ 54 = true := by decide +kernel
theorem ck_55 : chkJ 55 = true := by decide +kernel
theorem ck_56 : chkJ 56 = true := by decide +kernel
theorem ck_57 : chkJ 57 = true := by decide +kernel
theorem ck_58 : chkJ 58 = true := by decide +kernel
theorem ck_59 : chkJ 59 = true := by decide +kernel
theorem ck_60 : chkJ 60 = true := by decide +kernel
theorem ck_61 : chkJ 61 = true := by decide +kernel
theorem ck_62 : chkJ 62 = true := by decide +kernel
theorem ck_63 : chkJ 63 = true := by decide +kernel
theorem ck_64 : chkJ 64 = true := by decide +kernel
theorem ck_65 : chkJ 65 = true := by decide +kernel
theorem ck_66 : chkJ 66 = true := by decide +kernel
theorem ck_67 : chkJ 67 = true := by decide +kernel
theorem ck_68 : chkJ 68 = true := by decide +kernel
theorem ck_69 : chkJ 69 = true := by decide +kernel
theorem ck_70 : chkJ 70 = true := by decide +kernel
theorem ck_71 : chkJ 71 = true := by decide +kernel
theorem ck_72 : chkJ 72 = true := by decide +kernel
theorem ck_73 : chkJ 73 = true := by decide +kernel
theorem ck_74 : chkJ 74 = true := by decide +kernel
theorem ck_75 : chkJ 75 = true := by decide +kernel
theorem ck_76 : chkJ 76 = true := by decide +kernel
theorem ck_77 : chkJ 77 = true := by decide +kernel
theorem ck_78 : chkJ 78 = true := by decide +kernel
theorem ck_79 : chkJ 79 = true := by decide +kernel
theorem ck_80 : chkJ 80 = true := by decide +kernel
theorem ck_81 : chkJ 81 = true := by decide +kernel
theorem ck_82 : chkJ 82 = true := by decide +kernel
theorem ck_83 : chkJ 83 = true := by decide +kernel
theorem ck_84 : chkJ 84 = true := by decide +kernel
theorem ck_85 : chkJ 85 = true := by decide +kernel
theorem ck_86 : chkJ 86 = true := by decide +kernel
theorem ck_87 : chkJ 87 = true := by decide +kernel
theorem ck_88 : chkJ 88 = true := by decide +kernel
theorem ck_89 : chkJ 89 = true := by decide +kernel
theorem ck_90 : chkJ 90 = true := by decide +kernel
theorem ck_91 : chkJ 91 = true := by decide +kernel
theorem ck_92 : chkJ 92 = true := by decide +kernel
theorem ck_93 : chkJ 93 = true := by decide +kernel
theorem ck_94 : chkJ 94 = true := by decide +kernel
theorem ck_95 : chkJ 95 = true := by decide +kernel
theorem ck_96 : chkJ 96 = true := by decide +kernel
theorem ck_97 : chkJ 97 = true := by decide +kernel
theorem ck_98 : chkJ 98 = true := by decide +kernel
theorem ck_99 : chkJ 99 = true := by decide +kernel
theorem ck_100 : chkJ 100 = true := by decide +kernel
theorem ck_101 : chkJ 101 = true := by decide +kernel
theorem ck_102 : chkJ 102 = true := by decide +kernel
theorem ck_103 : chkJ 103 = true := by decide +kernel
theorem ck_104 : chkJ 104 = true := by decide +kernel
theorem ck_105 : chkJ 105 = true := by decide +kernel
theorem ck_106 : chkJ 106 = true := by decide +kernel
theorem ck_107 : chkJ 107 = true := by decide +kernel
theorem ck_108 : chkJ 108 = true := by decide +kernel
theorem ck_109 : chkJ 109 = true := by decide +kernel
theorem ck_110 : chkJ 110 = true := by decide +kernel
theorem ck_111 : chkJ 111 = true := by decide +kernel
theorem ck_112 : chkJ 112 = true := by decide +kernel
theorem ck_113 : chkJ 113 = true := by decide +kernel
theorem ck_114 : chkJ 114 = true := by decide +kernel
theorem ck_115 : chkJ 115 = true := by decide +kernel
theorem ck_116 : chkJ 116 = true := by decide +kernel
theorem ck_117 : chkJ 117 = true := by decide +kernel
theorem ck_118 : chkJ 118 = true := by decide +kernel
theorem ck_119 : chkJ 119 = true := by decide +kernel
theorem ck_120 : chkJ 120 = true := by decide +kernel
theorem ck_121 : chkJ 121 = true := by decide +kernel
theorem ck_122 : chkJ 122 = true := by decide +kernel
theorem ck_123 : chkJ 123 = true := by decide +kernel
theorem ck_124 : chkJ 124 = true := by decide +kernel
theorem ck_125 : chkJ 125 = true := by decide +kernel
theorem ck_126 : chkJ 126 = true := by decide +kernel
theorem ck_127 : chkJ 127 = true := by decide +kernel
theorem ck_128 : chkJ 128 = true := by decide +kernel
theorem ck_129 : chkJ 129 = true := by decide +kernel
theorem ck_130 : chkJ 130 = true := by decide +kernel
theorem ck_131 : chkJ 131 = true := by decide +kernel
theorem ck_132 : chkJ 132 = true := by decide +kernel
theorem ck_133 : chkJ 133 = true := by decide +kernel
theorem ck_134 : chkJ 134 = true := by decide +kernel
theorem ck_135 : chkJ 135 = true := by decide +kernel
theorem ck_136 : chkJ 136 = true := by decide +kernel
theorem ck_137 : chkJ 137 = true := by decide +kernel
theorem ck_138 : chkJ 138 = true := by decide +kernel
theorem ck_139 : chkJ 139 = true := by decide +kernel
theorem ck_140 : chkJ 140 = true := by decide +kernel
theorem ck_141 : chkJ 141 = true := by decide +kernel
theorem ck_142 : chkJ 142 = true := by decide +kernel
theorem ck_143 : chkJ 143 = true := by decide +kernel
theorem ck_144 : chkJ 144 = true := by decide +kernel
theorem ck_145 : chkJ 145 = true := by decide +kernel
theorem ck_146 : chkJ 146 = true := by decide +kernel
theorem ck_147 : chkJ 147 = true := by decide +kernel
theorem ck_148 : chkJ 148 = true := by decide +kernel
theorem ck_149 : chkJ 149 = true := by decide +kernel
theorem ck_150 : chkJ 150 = true := by decide +kernel
theorem ck_151 : chkJ 151 = true := by decide +kernel
theorem ck_152 : chkJ 152 = true := by decide +kernel
theorem ck_153 : chkJ 153 = true := by decide +kernel
theorem ck_154 : chkJ 154 = true := by decide +kernel
theorem ck_155 : chkJ 155 = true := by decide +kernel
theorem ck_156 : chkJ 156 = true := by decide +kernel
theorem ck_157 : chkJ 157 = true := by decide +kernel
theorem ck_158 : chkJ 158 = true := by decide +kernel
theorem ck_159 : chkJ 159 = true := by decide +kernel
theorem ck_160 : chkJ 160 = true := by decide +kernel
theorem ck_161 : chkJ 161 = true := by decide +kernel
theorem ck_162 : chkJ 162 = true := by decide +kernel
theorem ck_163 : chkJ 163 = true := by decide +kernel
theorem ck_164 : chkJ 164 = true := by decide +kernel
theorem ck_165 : chkJ 165 = true := by decide +kernel
theorem ck_166 : chkJ 166 = true := by decide +kernel
theorem ck_167 : chkJ 167 = true := by decide +kernel
theorem ck_168 : chkJ 168 = true := by decide +kernel
theorem ck_169 : chkJ 169 = true := by decide +kernel
theorem ck_170 : chkJ 170 = true := by decide +kernel
theorem ck_171 : chkJ 171 = true := by decide +kernel
theorem ck_172 : chkJ 172 = true := by decide +kernel
theorem ck_173 : chkJ 173 = true := by decide +kernel
theorem ck_174 : chkJ 174 = true := by decide +kernel
theorem ck_175 : chkJ 175 = true := by decide +kernel
theorem ck_176 : chkJ 176 = true := by decide +kernel
theorem ck_177 : chkJ 177 = true := by decide +kernel
theorem ck_178 : chkJ 178 = true := by decide +kernel
theorem ck_179 : chkJ 179 = true := by decide +kernel
theorem ck_180 : chkJ 180 = true := by decide +kernel
theorem ck_181 : chkJ 181 = true := by decide +kernel
theorem ck_182 : chkJ 182 = true := by decide +kernel
theorem ck_183 : chkJ 183 = true := by decide +kernel
theorem ck_184 : chkJ 184 = true := by decide +kernel
theorem ck_185 : chkJ 185 = true := by decide +kernel
theorem ck_186 : chkJ 186 = true := by decide +kernel
theorem ck_187 : chkJ 187 = true := by decide +kernel
theorem ck_188 : chkJ 188 = true := by decide +kernel
theorem ck_189 : chkJ 189 = true := by decide +kernel
theorem ck_190 : chkJ 190 = true := by decide +kernel
theorem ck_191 : chkJ 191 = true := by decide +kernel
theorem ck_192 : chkJ 192 = true := by decide +kernel
theorem ck_193 : chkJ 193 = true := by decide +kernel
theorem ck_194 : chkJ 194 = true := by decide +kernel
theorem ck_195 : chkJ 195 = true := by decide +kernel
theorem ck_196 : chkJ 196 = true := by decide +kernel
theorem ck_197 : chkJ 197 = true := by decide +kernel
theorem ck_198 : chkJ 198 = true := by decide +kernel
theorem ck_199 : chkJ 199 = true := by decide +kernel
theorem ck_200 : chkJ 200 = true := by decide +kernel
theorem ck_201 : chkJ 201 = true := by decide +kernel
theorem ck_202 : chkJ 202 = true := by decide +kernel
theorem ck_203 : chkJ 203 = true := by decide +kernel
theorem ck_204 : chkJ 204 = true := by decide +kernel
theorem ck_205 : chkJ 205 = true := by decide +kernel
theorem ck_206 : chkJ 206 = true := by decide +kernel
theorem ck_207 : chkJ 207 = true := by decide +kernel
theorem ck_208 : chkJ 208 = true := by decide +kernel
theorem ck_209 : chkJ 209 = true := by decide +kernel
theorem ck_210 : chkJ 210 = true := by decide +kernel
theorem ck_211 : chkJ 211 = true := by decide +kernel
theorem ck_212 : chkJ 212 = true := by decide +kernel
theorem ck_213 : chkJ 213 = true := by decide +kernel
theorem ck_214 : chkJ 214 = true := by decide +kernel
theorem ck_215 : chkJ 215 = true := by decide +kernel
theorem ck_216 : chkJ 216 = true := by decide +kernel
theorem ck_217 : chkJ 217 = true := by decide +kernel
theorem ck_218 : chkJ 218 = true := by decide +kernel
theorem ck_219 : chkJ 219 = true := by decide +kernel
theorem ck_220 : chkJ 220 = true := by decide +kernel
theorem ck_221 : chkJ 221 = true := by decide +kernel
theorem ck_222 : chkJ 222 = true := by decide +kernel
theorem ck_223 : chkJ 223 = true := by decide +kernel
theorem ck_224 : chkJ 224 = true := by decide +kernel
theorem ck_225 : chkJ 225 = true := by decide +kernel
theorem ck_226 : chkJ 226 = true := by decide +kernel
theorem ck_227 : chkJ 227 = true := by decide +kernel
theorem ck_228 : chkJ 228 = true := by decide +kernel
theorem ck_229 : chkJ 229 = true := by decide +kernel
theorem ck_230 : chkJ 230 = true := by decide +kernel
theorem ck_231 : chkJ 231 = true := by decide +kernel
theorem ck_232 : chkJ 232 = true := by decide +kernel
theorem ck_233 : chkJ 233 = true := by decide +kernel
theorem ck_234 : chkJ 234 = true := by decide +kernel
theorem ck_235 : chkJ 235 = true := by decide +kernel
theorem ck_236 : chkJ 236 = true := by decide +kernel
theorem ck_237 : chkJ 237 = true := by decide +kernel
theorem ck_238 : chkJ 238 = true := by decide +kernel
theorem ck_239 : chkJ 239 = true := by decide +kernel
theorem ck_240 : chkJ 240 = true := by decide +kernel
theorem ck_241 : chkJ 241 = true := by decide +kernel
theorem ck_242 : chkJ 242 = true := by decide +kernel
theorem ck_243 : chkJ 243 = true := by decide +kernel
theorem ck_244 : chkJ 244 = true := by decide +kernel
theorem ck_245 : chkJ 245 = true := by decide +kernel
theorem ck_246 : chkJ 246 = true := by decide +kernel
theorem ck_247 : chkJ 247 = true := by decide +kernel
theorem ck_248 : chkJ 248 = true := by decide +kernel
theorem ck_249 : chkJ 249 = true := by decide +kernel
theorem ck_250 : chkJ 250 = true := by decide +kernel
theorem ck_251 : chkJ 251 = true := by decide +kernel
theorem ck_252 : chkJ 252 = true := by decide +kernel
theorem ck_253 : chkJ 253 = true := by decide +kernel
theorem ck_254 : chkJ 254 = true := by decide +kernel
theorem ck_255 : chkJ 255 = true := by decide +kernel
theorem ck_256 : chkJ 256 = true := by decide +kernel
theorem ck_257 : chkJ 257 = true := by decide +kernel
theorem ck_258 : chkJ 258 = true := by decide +kernel
theorem ck_259 : chkJ 259 = true := by decide +kernel
theorem cks_0 : ∀ j, 0 ≤ j → j < 20 → chkJ j = true := by
  intro j h1 h2
  rcases (show j = 0 ∨ j = 1 ∨ j = 2 ∨ j = 3 ∨ j = 4 ∨ j = 5 ∨ j = 6 ∨ j = 7 ∨ j = 8 ∨ j = 9 ∨ j = 10 ∨ j = 11 ∨ j = 12 ∨ j = 13 ∨ j = 14 ∨ j = 15 ∨ j = 16 ∨ j = 17 ∨ j = 18 ∨ j = 19 by omega) with rfl | rfl | rfl | rfl | rfl | rfl | rfl | rfl | rfl | rfl | rfl | rfl | rfl | rfl | rfl | rfl | rfl | rfl | rfl | rfl
  · exact ck_0
  · exact ck_1
  · exact ck_2
  · exact ck_3
  · exact ck_4
  · exact ck_5
  · exact ck_6
  · exact ck_7
  · exact ck_8
  · exact ck_9
  · exact ck_10
  · exact ck_11
  · exact ck_12
  · exact ck_13
  · exact ck_14
  · exact ck_15
  · exact ck_16
  · exact ck_17
  · exact ck_18
  · exact ck_19
theorem cks_1 : ∀ j, 20 ≤ j → j < 40 → chkJ j = true := by
  intro j h1 h2
  rcases (show j = 20 ∨ j = 21 ∨ j = 22 ∨ j = 23 ∨ j = 24 ∨ j = 25 ∨ j = 26 ∨ j = 27 ∨ j = 28 ∨ j = 29 ∨ j = 30 ∨ j = 31 ∨ j = 32 ∨ j = 33 ∨ j = 34 ∨ j = 35 ∨ j = 36 ∨ j = 37 ∨ j = 38 ∨ j = 39 by omega) with rfl | rfl | rfl | rfl | rfl | rfl | rfl | rfl | rfl | rfl | rfl | rfl | rfl | rfl | rfl | rfl | rfl | rfl | rfl | rfl
  · exact ck_20
  · exact ck_21
  · exact ck_22
  · exact ck_23
  · exact ck_24
  · exact ck_25
  · exact ck_26
  · exact ck_27
  · exact ck_28
  · exact ck_29
  · exact ck_30
  · exact ck_31
  · exact ck_32
  · exact ck_33
  · exact ck_34
  · exact ck_35
  · exact ck_36
  · exact ck_37
  · exact ck_38
  · exact ck_39
theorem cks_2 : ∀ j, 40 ≤ j → j < 60 → chkJ j = true := by
  intro j h1 h2
  rcases (show j = 40 ∨ j = 41 ∨ j = 42 ∨ j = 43 ∨ j = 44 ∨ j = 45 ∨ j = 46 ∨ j = 47 ∨ j = 48 ∨ j = 49 ∨ j = 50 ∨ j = 51 ∨ j = 52 ∨ j = 53 ∨ j = 54 ∨ j = 55 ∨ j = 56 ∨ j = 57 ∨ j = 58 ∨ j = 59 by omega) with rfl | rfl | rfl | rfl | rfl | rfl | rfl | rfl | rfl | rfl | rfl | rfl | rfl | rfl | rfl | rfl | rfl | rfl | rfl | rfl
  · exact ck_40
  · exact ck_41
  · exact ck_42
  · exact ck_43
  · exact ck_44
  · exact ck_45
  · exact ck_46
  · exact ck_47
  · exact ck_48
  · exact ck_49
  · exact ck_50
  · exact ck_51
  · exact ck_52
  · exact ck_53
  · exact ck_54
  · exact ck_55
  · exact ck_56
  · exact ck_57
  · exact ck_58
  · exact ck_59
theorem cks_3 : ∀ j, 60 ≤ j → j < 80 → chkJ j = true := by
  intro j h1 h2
  rcases (show j = 60 ∨ j = 61 ∨ j = 62 ∨ j = 63 ∨ j = 64 ∨ j = 65 ∨ j = 66 ∨ j = 67 ∨ j = 68 ∨ j = 69 ∨ j = 70 ∨ j = 71 ∨ j = 72 ∨ j = 73 ∨ j = 74 ∨ j = 75 ∨ j = 76 ∨ j = 77 ∨ j = 78 ∨ j = 79 by omega) with rfl | rfl | rfl | rfl | rfl | rfl | rfl | rfl | rfl | rfl | rfl | rfl | rfl | rfl | rfl | rfl | rfl | rfl | rfl | rfl
  · exact ck_60
  · exact ck_61
  · exact ck_62
  · exact ck_63
  · exact ck_64
  · exact ck_65
  · exact ck_66
  · exact ck_67
  · exact ck_68
  · exact ck_69
  · exact ck_70
  · exact ck_71
  · exact ck_72
  · exact ck_73
  · exact ck_74
  · exact ck_75
  · exact ck_76
  · exact ck_77
  · exact ck_78
  · exact ck_79
theorem cks_4 : ∀ j, 80 ≤ j → j < 100 → chkJ j = true := by
  intro j h1 h2
  rcases (show j = 80 ∨ j = 81 ∨ j = 82 ∨ j = 83 ∨ j = 84 ∨ j = 85 ∨ j = 86 ∨ j = 87 ∨ j = 88 ∨ j = 89 ∨ j = 90 ∨ j = 91 ∨ j = 92 ∨ j = 93 ∨ j = 94 ∨ j = 95 ∨ j = 96 ∨ j = 97 ∨ j = 98 ∨ j = 99 by omega) with rfl | rfl | rfl | rfl | rfl | rfl | rfl | rfl | rfl | rfl | rfl | rfl | rfl | rfl | rfl | rfl | rfl | rfl | rfl | rfl
  · exact ck_80
  · exact ck_81
  · exact ck_82
  · exact ck_83
  · exact ck_84
  · exact ck_85
  · exact ck_86
  · exact ck_87
  · exact ck_88
  · exact ck_89
  · exact ck_90
  · exact ck_91
  · exact ck_92
  · exact ck_93
  · exact ck_94
  · exact ck_95
  · exact ck_96
  · exact ck_97
  · exact ck_98
  · exact ck_99
theorem cks_5 : ∀ j, 100 ≤ j → j < 120 → chkJ j = true := by
  intro j h1 h2
  rcases (show j = 100 ∨ j = 101 ∨ j = 102 ∨ j = 103 ∨ j = 104 ∨ j = 105 ∨ j = 106 ∨ j = 107 ∨ j = 108 ∨ j = 109 ∨ j = 110 ∨ j = 111 ∨ j = 112 ∨ j = 113 ∨ j = 114 ∨ j = 115 ∨ j = 116 ∨ j = 117 ∨ j = 118 ∨ j = 119 by omega) with rfl | rfl | rfl | rfl | rfl | rfl | rfl | rfl | rfl | rfl | rfl | rfl | rfl | rfl | rfl | rfl | rfl | rfl | rfl | rfl
  · exact ck_100
  · exact ck_101
  · exact ck_102
  · exact ck_103
  · exact ck_104
  · exact ck_105
  · exact ck_106
  · exact ck_107
  · exact ck_108
  · exact ck_109
  · exact ck_110
  · exact ck_111
  · exact ck_112
  · exact ck_113
  · exact ck_114
  · exact ck_115
  · exact ck_116
  · exact ck_117
  · exact ck_118
  · exact ck_119
theorem cks_6 : ∀ j, 120 ≤ j → j < 140 → chkJ j = true := by
  intro j h1 h2
  rcases (show j = 120 ∨ j = 121 ∨ j = 122 ∨ j = 123 ∨ j = 124 ∨ j = 125 ∨ j = 126 ∨ j = 127 ∨ j = 128 ∨ j = 129 ∨ j = 130 ∨ j = 131 ∨ j = 132 ∨ j = 133 ∨ j = 134 ∨ j = 135 ∨ j = 136 ∨ j = 137 ∨ j = 138 ∨ j = 139 by omega) with rfl | rfl | rfl | rfl | rfl | rfl | rfl | rfl | rfl | rfl | rfl | rfl | rfl | rfl | rfl | rfl | rfl | rfl | rfl | rfl
  · exact ck_120
  · exact ck_121
  · exact ck_122
  · exact ck_123
  · exact ck_124
  · exact ck_125
  · exact ck_126
  · exact ck_127
  · exact ck_128
  · exact ck_129
  · exact ck_130
  · exact ck_131
  · exact ck_132
  · exact ck_133
  · exact ck_134
  · exact ck_135
  · exact ck_136
  · exact ck_137
  · exact ck_138
  · exact ck_139
theorem cks_7 : ∀ j, 140 ≤ j → j < 160 → chkJ j = true := by
  intro j h1 h2
  rcases (show j = 140 ∨ j = 141 ∨ j = 142 ∨ j = 143 ∨ j = 144 ∨ j = 145 ∨ j = 146 ∨ j = 147 ∨ j = 148 ∨ j = 149 ∨ j = 150 ∨ j = 151 ∨ j = 152 ∨ j = 153 ∨ j = 154 ∨ j = 155 ∨ j = 156 ∨ j = 157 ∨ j = 158 ∨ j = 159 by omega) with rfl | rfl | rfl | rfl | rfl | rfl | rfl | rfl | rfl | rfl | rfl | rfl | rfl | rfl | rfl | rfl | rfl | rfl | rfl | rfl
  · exact ck_140
  · exact ck_141
  · exact ck_142
  · exact ck_143
  · exact ck_144
  · exact ck_145
  · exact ck_146
  · exact ck_147
  · exact ck_148
  · exact ck_149
  · exact ck_150
  · exact ck_151
  · exact ck_152
  · exact ck_153
  · exact ck_154
  · exact ck_155
  · exact ck_156
  · exact ck_157
  · exact ck_158
  · exact ck_159
theorem cks_8 : ∀ j, 160 ≤ j → j < 180 → chkJ j = true := by
  intro j h1 h2
  rcases (show j = 160 ∨ j = 161 ∨ j = 162 ∨ j = 163 ∨ j = 164 ∨ j = 165 ∨ j = 166 ∨ j = 167 ∨ j = 168 ∨ j = 169 ∨ j = 170 ∨ j = 171 ∨ j = 172 ∨ j = 173 ∨ j = 174 ∨ j = 175 ∨ j = 176 ∨ j = 177 ∨ j = 178 ∨ j = 179 by omega) with rfl | rfl | rfl | rfl | rfl | rfl | rfl | rfl | rfl | rfl | rfl | rfl | rfl | rfl | rfl | rfl | rfl | rfl | rfl | rfl
  · exact ck_160
  · exact ck_161
  · exact ck_162
  · exact ck_163
  · exact ck_164
  · exact ck_165
  · exact ck_166
  · exact ck_167
  · exact ck_168
  · exact ck_169
  · exact ck_170
  · exact ck_171
  · exact ck_172
  · exact ck_173
  · exact ck_174
  · exact ck_175
  · exact ck_176
  · exact ck_177
  · exact ck_178
  · exact ck_179
theorem cks_9 : ∀ j, 180 ≤ j → j < 200 → chkJ j = true := by
  intro j h1 h2
  rcases (show j = 180 ∨ j = 181 ∨ j = 182 ∨ j = 183 ∨ j = 184 ∨ j = 185 ∨ j = 186 ∨ j = 187 ∨ j = 188 ∨ j = 189 ∨ j = 190 ∨ j = 191 ∨ j = 192 ∨ j = 193 ∨ j = 194 ∨ j = 195 ∨ j = 196 ∨ j = 197 ∨ j = 198 ∨ j = 199 by omega) with rfl | rfl | rfl | rfl | rfl | rfl | rfl | rfl | rfl | rfl | rfl | rfl | rfl | rfl | rfl | rfl | rfl | rfl | rfl | rfl
  · exact ck_180
  · exact ck_181
  · exact ck_182
  · exact ck_183
  · exact ck_184
  · exact ck_185
  · exact ck_186
  · exact ck_187
  · exact ck_188
  · exact ck_189
  · exact ck_190
  · exact ck_191
  · exact ck_192
  · exact ck_193
  · exact ck_194
  · exact ck_195
  · exact ck_196
  · exact ck_197
  · exact ck_198
  · exact ck_199
theorem cks_10 : ∀ j, 200 ≤ j → j < 220 → chkJ j = true := by
  intro j h1 h2
  rcases (show j = 200 ∨ j = 201 ∨ j = 202 ∨ j = 203 ∨ j = 204 ∨ j = 205 ∨ j = 206 ∨ j = 207 ∨ j = 208 ∨ j = 209 ∨ j = 210 ∨ j = 211 ∨ j = 212 ∨ j = 213 ∨ j = 214 ∨ j = 215 ∨ j = 216 ∨ j = 217 ∨ j = 218 ∨ j = 219 by omega) with rfl | rfl | rfl | rfl | rfl | rfl | rfl | rfl | rfl | rfl | rfl | rfl | rfl | rfl | rfl | rfl | rfl | rfl | rfl | rfl
  · exact ck_200
  · exact ck_201
  · exact ck_202
  · exact ck_203
  · exact ck_204
  · exact ck_205
  · exact ck_206
  · exact ck_207
  · exact ck_208
  · exact ck_209
  · exact ck_210
  · exact ck_211
  · exact ck_212
  · exact ck_213
  · exact ck_214
  · exact ck_215
  · exact ck_216
  · exact ck_217
  · exact ck_218
  · exact ck_219
theorem cks_11 : ∀ j, 220 ≤ j → j < 240 → chkJ j = true := by
  intro j h1 h2
  rcases (show j = 220 ∨ j = 221 ∨ j = 222 ∨ j = 223 ∨ j = 224 ∨ j = 225 ∨ j = 226 ∨ j = 227 ∨ j = 228 ∨ j = 229 ∨ j = 230 ∨ j = 231 ∨ j = 232 ∨ j = 233 ∨ j = 234 ∨ j = 235 ∨ j = 236 ∨ j = 237 ∨ j = 238 ∨ j = 239 by omega) with rfl | rfl | rfl | rfl | rfl | rfl | rfl | rfl | rfl | rfl | rfl | rfl | rfl | rfl | rfl | rfl | rfl | rfl | rfl | rfl
  · exact ck_220
  · exact ck_221
  · exact ck_222
  · exact ck_223
  · exact ck_224
  · exact ck_225
  · exact ck_226
  · exact ck_227
  · exact ck_228
  · exact ck_229
  · exact ck_230
  · exact ck_231
  · exact ck_232
  · exact ck_233
  · exact ck_234
  · exact ck_235
  · exact ck_236
  · exact ck_237
  · exact ck_238
  · exact ck_239
theorem cks_12 : ∀ j, 240 ≤ j → j < 260 → chkJ j = true := by
  intro j h1 h2
  rcases (show j = 240 ∨ j = 241 ∨ j = 242 ∨ j = 243 ∨ j = 244 ∨ j = 245 ∨ j = 246 ∨ j = 247 ∨ j = 248 ∨ j = 249 ∨ j = 250 ∨ j = 251 ∨ j = 252 ∨ j = 253 ∨ j = 254 ∨ j = 255 ∨ j = 256 ∨ j = 257 ∨ j = 258 ∨ j = 259 by omega) with rfl | rfl | rfl | rfl | rfl | rfl | rfl | rfl | rfl | rfl | rfl | rfl | rfl | rfl | rfl | rfl | rfl | rfl | rfl | rfl
  · exact ck_240
  · exact ck_241
  · exact ck_242
  · exact ck_243
  · exact ck_244
  · exact ck_245
  · exact ck_246
  · exact ck_247
  · exact ck_248
  · exact ck_249
  · exact ck_250
  · exact ck_251
  · exact ck_252
  · exact ck_253
  · exact ck_254
  · exact ck_255
  · exact ck_256
  · exact ck_257
  · exact ck_258
  · exact ck_259
theorem ck_ok : ∀ j, j < 260 → chkJ j = true := by
  intro j h2
  by_cases k0 : j < 20
  · exact cks_0 j (by omega) k0
  by_cases k1 : j < 40
  · exact cks_1 j (by omega) k1
  by_cases k2 : j < 60
  · exact cks_2 j (by omega) k2
  by_cases k3 : j < 80
  · exact cks_3 j (by omega) k3
  by_cases k4 : j < 100
  · exact cks_4 j (by omega) k4
  by_cases k5 : j < 120
  · exact cks_5 j (by omega) k5
  by_cases k6 : j < 140
  · exact cks_6 j (by omega) k6
  by_cases k7 : j < 160
  · exact cks_7 j (by omega) k7
  by_cases k8 : j < 180
  · exact cks_8 j (by omega) k8
  by_cases k9 : j < 200
  · exact cks_9 j (by omega) k9
  by_cases k10 : j < 220
  · exact cks_10 j (by omega) k10
  by_cases k11 : j < 240
  · exact cks_11 j (by omega) k11
  by_cases k12 : j < 260
  · exact cks_12 j (by omega) k12
  exact absurd h2 (by omega)
