/-! the tables of methods -/
abbrev J_L_law : Nat := 0
abbrev J_X_init : Nat := 1
abbrev J_Rd_init : Nat := 2
abbrev J_St_init : Nat := 3
abbrev J_Sa_init : Nat := 4
abbrev J_Ma_init : Nat := 5
abbrev J_It_init : Nat := 6
abbrev J_Pa_init : Nat := 7
abbrev J_Fr_init : Nat := 8
abbrev J_Gr_init : Nat := 9
abbrev J_X_append : Nat := 10
abbrev J_Rd_add : Nat := 11
abbrev J_X_clearBuffer : Nat := 12
abbrev J_X_setStream : Nat := 13
abbrev J_X_isStream : Nat := 14
abbrev J_X_isBetween : Nat := 15
abbrev J_Rd_read : Nat := 16
abbrev J_St_begin : Nat := 17
abbrev J_St_endPath : Nat := 18
abbrev J_Rd_skipSpaces : Nat := 19
abbrev J_Rd_signAt : Nat := 20
abbrev J_Rd_findEnd : Nat := 21
abbrev J_Rd_isNumberSign : Nat := 22
abbrev J_Rd_isDigit : Nat := 23
abbrev J_Rd_isSmallLetter : Nat := 24
abbrev J_Rd_readToken : Nat := 25
abbrev J_Fc_nameOf : Nat := 26
abbrev J_X_isName : Nat := 27
abbrev J_Rd_readNumber : Nat := 28
abbrev J_Rd_readDenominator : Nat := 29
abbrev J_Fc_lowest : Nat := 30
abbrev J_Fc_isNumber : Nat := 31
abbrev J_Rd_findOperator : Nat := 32
abbrev J_Rd_isWord : Nat := 33
abbrev J_Sg_length : Nat := 34
abbrev J_Sg_coder : Nat := 35
abbrev J_Sg_charAt : Nat := 36
abbrev J_Sg_isLatin1 : Nat := 37
abbrev J_Sl_charAt : Nat := 38
abbrev J_Sg_checkIndex : Nat := 39
abbrev J_Pc_checkIndex : Nat := 40
abbrev J_St_pass : Nat := 41
abbrev J_En_ordinal : Nat := 42
abbrev J_St_passOpening : Nat := 43
abbrev J_St_countOpen : Nat := 44
abbrev J_St_passClosing : Nat := 45
abbrev J_St_passInPath : Nat := 46
abbrev J_St_isComplete : Nat := 47
abbrev J_X_saveState : Nat := 48
abbrev J_X_dropOldestState : Nat := 49
abbrev J_Sa_copyFrom : Nat := 50
abbrev J_Rd_makeProgram : Nat := 51
abbrev J_Pg_init : Nat := 52
abbrev J_Mt_min : Nat := 53
abbrev J_Mt_max : Nat := 54
abbrev J_Ar_copyOf : Nat := 55
abbrev J_Ar_copyOf2 : Nat := 56
abbrev J_X_tokenCount : Nat := 57
abbrev J_X_setBox : Nat := 58
abbrev J_X_isForm : Nat := 59
abbrev J_X_isSpan : Nat := 60
abbrev J_Sa_putBox : Nat := 61
abbrev J_X_removeBox : Nat := 62
abbrev J_X_define : Nat := 63
abbrev J_X_isResource : Nat := 64
abbrev J_Sa_findResource : Nat := 65
abbrev J_Sa_putResource : Nat := 66
abbrev J_X_removeResource : Nat := 67
abbrev J_X_resource : Nat := 68
abbrev J_X_setSize : Nat := 69
abbrev J_X_setBudget : Nat := 70
abbrev J_X_undo : Nat := 71
abbrev J_X_run : Nat := 72
abbrev J_Ma_execute : Nat := 73
abbrev J_Ma_begin : Nat := 74
abbrev J_Pa_begin : Nat := 75
abbrev J_Gr_begin : Nat := 76
abbrev J_Fr_begin : Nat := 77
abbrev J_Fr_isAtEnd : Nat := 78
abbrev J_Ma_leaveForm : Nat := 79
abbrev J_Ma_popGraphics : Nat := 80
abbrev J_Fr_presentOperator : Nat := 81
abbrev J_Fr_passNext : Nat := 82
abbrev J_Fr_pushLiteral : Nat := 83
abbrev J_Fr_isFull : Nat := 84
abbrev J_Fr_push : Nat := 85
abbrev J_Ma_perform : Nat := 86
abbrev J_Fr_hasOperandsOf : Nat := 87
abbrev J_Fr_peek : Nat := 88
abbrev J_Ma_pushGraphics : Nat := 89
abbrev J_Gr_copyFrom : Nat := 90
abbrev J_Ma_concat : Nat := 91
abbrev J_Fc_product : Nat := 92
abbrev J_Fc_numerator : Nat := 93
abbrev J_Fc_denominator : Nat := 94
abbrev J_Fc_sum : Nat := 95
abbrev J_Fr_remove : Nat := 96
abbrev J_Ma_addPoint : Nat := 97
abbrev J_Gr_toDevice : Nat := 98
abbrev J_Fc_sixteenths : Nat := 99
abbrev J_Mt_floorDiv : Nat := 100
abbrev J_Pa_presentPoints : Nat := 101
abbrev J_Pa_startOf : Nat := 102
abbrev J_Pa_add : Nat := 103
abbrev J_Ma_addRect : Nat := 104
abbrev J_Ma_setCorners : Nat := 105
abbrev J_Pa_addPart : Nat := 106
abbrev J_Pa_mark : Nat := 107
abbrev J_Ma_endPath : Nat := 108
abbrev J_Gr_isFull : Nat := 109
abbrev J_It_isFull : Nat := 110
abbrev J_Pa_end : Nat := 111
abbrev J_It_add : Nat := 112
abbrev J_Gr_addClip : Nat := 113
abbrev J_Ma_setColor : Nat := 114
abbrev J_Fc_isNameValue : Nat := 115
abbrev J_Ma_lookUp : Nat := 116
abbrev J_Fc_isIntegerUpTo : Nat := 117
abbrev J_Ma_draw : Nat := 118
abbrev J_Ma_isExecuted : Nat := 119
abbrev J_Sa_findSideOfBox : Nat := 120
abbrev J_Ma_repeat : Nat := 121
abbrev J_Fr_beginLoop : Nat := 122
abbrev J_Pg_findPartner : Nat := 123
abbrev J_Ma_duplicate : Nat := 124
abbrev J_Ma_exchange : Nat := 125
abbrev J_Ma_calculate : Nat := 126
abbrev J_Ma_apply : Nat := 127
abbrev J_Fc_difference : Nat := 128
abbrev J_Fc_quotient : Nat := 129
abbrev J_Ma_count : Nat := 130
abbrev J_X_result : Nat := 131
abbrev J_Ma_findNumber : Nat := 132
abbrev J_X_operand : Nat := 133
abbrev J_Ma_findOperand : Nat := 134
abbrev J_Ma_findPart : Nat := 135
abbrev J_X_matrix : Nat := 136
abbrev J_Ma_findEntry : Nat := 137
abbrev J_X_trace : Nat := 138
abbrev J_Ma_findCounted : Nat := 139
abbrev J_X_cell : Nat := 140
abbrev J_Sa_hasCell : Nat := 141
abbrev J_It_latestAt : Nat := 142
abbrev J_It_coversCell : Nat := 143
abbrev J_It_has : Nat := 144
abbrev J_Pa_covers : Nat := 145
abbrev J_Pa_endOf : Nat := 146
abbrev J_Pa_findNext : Nat := 147
abbrev J_Pa_crossing : Nat := 148
abbrev J_Pa_isOddClip : Nat := 149
abbrev J_It_colorOf : Nat := 150
abbrev J_X_countColor : Nat := 151
abbrev J_It_countCells : Nat := 152
abbrev J_X_itemAt : Nat := 153
abbrev J_X_item : Nat := 154
abbrev J_X_missingItem : Nat := 155
abbrev J_It_findProperty : Nat := 156
abbrev J_Pa_countParts : Nat := 157
abbrev J_It_countPoints : Nat := 158
abbrev J_It_countCovered : Nat := 159
abbrev J_It_countChanged : Nat := 160
abbrev J_X_point : Nat := 161
abbrev J_It_findCoordinate : Nat := 162
abbrev J_X_bound : Nat := 163
abbrev J_It_findSide : Nat := 164
abbrev J_X_doubleArea : Nat := 165
abbrev J_It_findDoubleArea : Nat := 166
abbrev J_Pa_findDoubleArea : Nat := 167
abbrev J_M_init : Nat := 168
abbrev J_M_append : Nat := 169
abbrev J_M_in : Nat := 170
abbrev J_M_clearBuffer : Nat := 171
abbrev J_M_setStream : Nat := 172
abbrev J_M_isRead : Nat := 173
abbrev J_M_isNumeral : Nat := 174
abbrev J_M_numberCode : Nat := 175
abbrev J_M_isDigit : Nat := 176
abbrev J_M_divisor : Nat := 177
abbrev J_M_isLetter : Nat := 178
abbrev J_M_operatorOf : Nat := 179
abbrev J_M_isAllowed : Nat := 180
abbrev J_M_opens : Nat := 181
abbrev J_M_openOf : Nat := 182
abbrev J_M_closes : Nat := 183
abbrev J_M_marks : Nat := 184
abbrev J_M_save : Nat := 185
abbrev J_M_tokenCount : Nat := 186
abbrev J_M_setBox : Nat := 187
abbrev J_M_isPlace : Nat := 188
abbrev J_M_removeBox : Nat := 189
abbrev J_M_define : Nat := 190
abbrev J_M_isName : Nat := 191
abbrev J_M_removeResource : Nat := 192
abbrev J_M_resource : Nat := 193
abbrev J_M_setSize : Nat := 194
abbrev J_M_setBudget : Nat := 195
abbrev J_M_undo : Nat := 196
abbrev J_M_run : Nat := 197
abbrev J_M_empties : Nat := 198
abbrev J_M_takesBack : Nat := 199
abbrev J_M_tokenAt : Nat := 200
abbrev J_M_executes : Nat := 201
abbrev J_M_fails : Nat := 202
abbrev J_M_pushes : Nat := 203
abbrev J_M_top : Nat := 204
abbrev J_M_nexts : Nat := 205
abbrev J_M_wrong : Nat := 206
abbrev J_M_areOperands : Nat := 207
abbrev J_M_needed : Nat := 208
abbrev J_M_isNamed : Nat := 209
abbrev J_M_isInteger : Nat := 210
abbrev J_M_areNumbers : Nat := 211
abbrev J_M_isResource : Nat := 212
abbrev J_M_found : Nat := 213
abbrev J_M_isExecuted : Nat := 214
abbrev J_M_isTooMuch : Nat := 215
abbrev J_M_multiplies : Nat := 216
abbrev J_M_sum : Nat := 217
abbrev J_M_goesOn : Nat := 218
abbrev J_M_becomes : Nat := 219
abbrev J_M_device : Nat := 220
abbrev J_M_sixteenths : Nat := 221
abbrev J_M_floor : Nat := 222
abbrev J_M_corners : Nat := 223
abbrev J_M_rectangle : Nat := 224
abbrev J_M_corner : Nat := 225
abbrev J_M_isBoxTooMuch : Nat := 226
abbrev J_M_traces : Nat := 227
abbrev J_M_does : Nat := 228
abbrev J_M_stacks : Nat := 229
abbrev J_M_keeps : Nat := 230
abbrev J_M_addsPoint : Nat := 231
abbrev J_M_addsCorners : Nat := 232
abbrev J_M_ends : Nat := 233
abbrev J_M_paints : Nat := 234
abbrev J_M_keepsPath : Nat := 235
abbrev J_M_clips : Nat := 236
abbrev J_M_begins : Nat := 237
abbrev J_M_repeats : Nat := 238
abbrev J_M_nextOf : Nat := 239
abbrev J_M_result : Nat := 240
abbrev J_M_operand : Nat := 241
abbrev J_M_matrix : Nat := 242
abbrev J_M_trace : Nat := 243
abbrev J_M_cell : Nat := 244
abbrev J_M_isCell : Nat := 245
abbrev J_M_latest : Nat := 246
abbrev J_M_covers : Nat := 247
abbrev J_M_isCovered : Nat := 248
abbrev J_M_crossing : Nat := 249
abbrev J_M_colorOf : Nat := 250
abbrev J_M_countColor : Nat := 251
abbrev J_M_itemAt : Nat := 252
abbrev J_M_item : Nat := 253
abbrev J_M_refused : Nat := 254
abbrev J_M_coveredBy : Nat := 255
abbrev J_M_shownBy : Nat := 256
abbrev J_M_point : Nat := 257
abbrev J_M_bound : Nat := 258
abbrev J_M_doubleArea : Nat := 259
def tabL : List (Nat × List CE) := [
  (4, k_0_0), (2, k_1_0), (1, k_2_0), (1, k_3_0), (1, k_4_0), (2, k_5_0), (1, k_6_0), (1, k_7_0), (1, k_8_0), (1, k_9_0),
  (2, k_10_0), (2, k_11_0), (2, k_12_0), (4, k_13_0), (1, k_14_0), (3, k_15_0), (4, k_16_0), (1, k_17_0), (1, k_18_0), (3, k_19_0),
  (2, k_20_0), (4, k_21_0), (1, k_22_0), (1, k_23_0), (1, k_24_0), (5, k_25_0), (1, k_26_0), (1, k_27_0), (9, k_28_0), (5, k_29_0),
  (12, k_30_0), (2, k_31_0), (4, k_32_0), (5, k_33_0), (1, k_34_0), (1, k_35_0), (2, k_36_0), (1, k_37_0), (2, k_38_0), (2, k_39_0),
  (3, k_40_0), (4, k_41_0), (1, k_42_0), (3, k_43_0), (3, k_44_0), (5, k_45_0), (3, k_46_0), (1, k_47_0), (1, k_48_0), (3, k_49_0),
  (3, k_50_0), (1, k_51_0), (6, k_52_0), (2, k_53_0), (2, k_54_0), (3, k_55_0), (3, k_56_0), (3, k_57_0), (7, k_58_0), (1, k_59_0),
  (2, k_60_0), (6, k_61_0), (2, k_62_0), (6, k_63_0), (2, k_64_0), (3, k_65_0), (4, k_66_0), (4, k_67_0), (4, k_68_0), (3, k_69_0),
  (3, k_70_0), (1, k_71_0), (1, k_72_0), (8, k_73_0), (2, k_74_0), (1, k_75_0), (1, k_76_0), (3, k_77_0), (1, k_78_0), (1, k_79_0),
  (1, k_80_0), (1, k_81_0), (1, k_82_0), (1, k_83_0), (1, k_84_0), (3, k_85_0), (4, k_86_0), (3, k_87_0), (3, k_88_0), (1, k_89_0),
  (2, k_90_0), (10, k_91_0), (6, k_92_0), (2, k_93_0), (2, k_94_0), (8, k_95_0), (2, k_96_0), (5, k_97_0), (10, k_98_0), (6, k_99_0),
  (6, k_100_0), (1, k_101_0), (2, k_102_0), (4, k_103_0), (10, k_104_0), (17, k_105_0), (3, k_106_0), (2, k_107_0), (8, k_108_0), (1, k_109_0),
  (1, k_110_0), (2, k_111_0), (6, k_112_0), (2, k_113_0), (6, k_114_0), (2, k_115_0), (4, k_116_0), (3, k_117_0), (7, k_118_0), (3, k_119_0),
  (3, k_120_0), (4, k_121_0), (3, k_122_0), (2, k_123_0), (2, k_124_0), (6, k_125_0), (9, k_126_0), (5, k_127_0), (8, k_128_0), (6, k_129_0),
  (4, k_130_0), (2, k_131_0), (2, k_132_0), (3, k_133_0), (4, k_134_0), (3, k_135_0), (3, k_136_0), (3, k_137_0), (3, k_138_0), (3, k_139_0),
  (4, k_140_0), (3, k_141_0), (5, k_142_0), (8, k_143_0), (2, k_144_0), (9, k_145_0), (2, k_146_0), (4, k_147_0), (9, k_148_0), (2, k_149_0),
  (2, k_150_0), (2, k_151_0), (6, k_152_0), (4, k_153_0), (4, k_154_0), (2, k_155_0), (4, k_156_0), (4, k_157_0), (2, k_158_0), (6, k_159_0),
  (7, k_160_0), (5, k_161_0), (5, k_162_0), (4, k_163_0), (6, k_164_0), (3, k_165_0), (2, k_166_0), (8, k_167_0), (2, k_168_0), (2, k_169_0),
  (3, k_170_0), (2, k_171_0), (5, k_172_0), (3, k_173_0), (2, k_174_0), (8, k_175_0), (3, k_176_0), (10, k_177_0), (2, k_178_0), (5, k_179_0),
  (2, k_180_0), (4, k_181_0), (4, k_182_0), (3, k_183_0), (2, k_184_0), (2, k_185_0), (3, k_186_0), (7, k_187_0), (1, k_188_0), (2, k_189_0),
  (7, k_190_0), (2, k_191_0), (5, k_192_0), (4, k_193_0), (3, k_194_0), (3, k_195_0), (2, k_196_0), (2, k_197_0), (1, k_198_0), (2, k_199_0),
  (2, k_200_0), (3, k_201_0), (2, k_202_0), (5, k_203_0), (2, k_204_0), (2, k_205_0), (3, k_206_0), (3, k_207_0), (1, k_208_0), (1, k_209_0),
  (3, k_210_0), (4, k_211_0), (3, k_212_0), (3, k_213_0), (4, k_214_0), (2, k_215_0), (5, k_216_0), (20, k_217_0), (6, k_218_0), (7, k_219_0),
  (9, k_220_0), (3, k_221_0), (6, k_222_0), (9, k_223_0), (17, k_224_0), (10, k_225_0), (3, k_226_0), (1, k_227_0), (6, k_228_0), (4, k_229_0),
  (2, k_230_0), (2, k_231_0), (2, k_232_0), (2, k_233_0), (6, k_234_0), (3, k_235_0), (3, k_236_0), (2, k_237_0), (3, k_238_0), (4, k_239_0),
  (2, k_240_0), (3, k_241_0), (3, k_242_0), (3, k_243_0), (3, k_244_0), (3, k_245_0), (5, k_246_0), (9, k_247_0), (10, k_248_0), (10, k_249_0),
  (2, k_250_0), (4, k_251_0), (3, k_252_0), (5, k_253_0), (3, k_254_0), (4, k_255_0), (7, k_256_0), (6, k_257_0), (8, k_258_0), (12, k_259_0)]
def mtyL : List MethodName := [
  ⟨"PageInterpreterLaw", "law", "([I)Z"⟩, ⟨"PageInterpreter", "<init>", "()V"⟩, ⟨"PageInterpreter$Reader", "<init>", "()V"⟩,
  ⟨"PageInterpreter$Structure", "<init>", "()V"⟩, ⟨"PageInterpreter$State", "<init>", "()V"⟩, ⟨"PageInterpreter$Machine", "<init>", "()V"⟩,
  ⟨"PageInterpreter$Items", "<init>", "()V"⟩, ⟨"PageInterpreter$Paths", "<init>", "()V"⟩, ⟨"PageInterpreter$Frame", "<init>", "()V"⟩,
  ⟨"PageInterpreter$Graphics", "<init>", "()V"⟩, ⟨"PageInterpreter", "append", "(I)I"⟩, ⟨"PageInterpreter$Reader", "add", "(I)Z"⟩,
  ⟨"PageInterpreter", "clearBuffer", "()I"⟩, ⟨"PageInterpreter", "setStream", "(I)I"⟩, ⟨"PageInterpreter", "isStream", "(I)Z"⟩,
  ⟨"PageInterpreter", "isBetween", "(III)Z"⟩, ⟨"PageInterpreter$Reader", "read", "()I"⟩, ⟨"PageInterpreter$Structure", "begin", "()V"⟩,
  ⟨"PageInterpreter$Structure", "endPath", "()V"⟩, ⟨"PageInterpreter$Reader", "skipSpaces", "(I)I"⟩, ⟨"PageInterpreter$Reader", "signAt", "(I)I"⟩,
  ⟨"PageInterpreter$Reader", "findEnd", "(I)I"⟩, ⟨"PageInterpreter$Reader", "isNumberSign", "(I)Z"⟩, ⟨"PageInterpreter$Reader", "isDigit", "(I)Z"⟩,
  ⟨"PageInterpreter$Reader", "isSmallLetter", "(I)Z"⟩, ⟨"PageInterpreter$Reader", "readToken", "(II)Z"⟩, ⟨"PageInterpreter$Fraction", "nameOf", "(I)J"⟩,
  ⟨"PageInterpreter", "isName", "(I)Z"⟩, ⟨"PageInterpreter$Reader", "readNumber", "(II)J"⟩, ⟨"PageInterpreter$Reader", "readDenominator", "(II)I"⟩,
  ⟨"PageInterpreter$Fraction", "lowest", "(JJ)J"⟩, ⟨"PageInterpreter$Fraction", "isNumber", "(J)Z"⟩, ⟨"PageInterpreter$Reader", "findOperator", "(II)LPageInterpreter$Operator;"⟩,
  ⟨"PageInterpreter$Reader", "isWord", "(Ljava/lang/String;II)Z"⟩, ⟨"java/lang/String", "length", "()I"⟩, ⟨"java/lang/String", "coder", "()B"⟩,
  ⟨"java/lang/String", "charAt", "(I)C"⟩, ⟨"java/lang/String", "isLatin1", "()Z"⟩, ⟨"java/lang/StringLatin1", "charAt", "([BI)C"⟩,
  ⟨"java/lang/String", "checkIndex", "(II)V"⟩, ⟨"jdk/internal/util/Preconditions", "checkIndex", "(IILjava/util/function/BiFunction;)I"⟩, ⟨"PageInterpreter$Structure", "pass", "(LPageInterpreter$Operator;I[I)Z"⟩,
  ⟨"java/lang/Enum", "ordinal", "()I"⟩, ⟨"PageInterpreter$Structure", "passOpening", "(LPageInterpreter$Operator;I)Z"⟩, ⟨"PageInterpreter$Structure", "countOpen", "(LPageInterpreter$Operator;I)V"⟩,
  ⟨"PageInterpreter$Structure", "passClosing", "(LPageInterpreter$Operator;I[I)Z"⟩, ⟨"PageInterpreter$Structure", "passInPath", "(LPageInterpreter$Operator;)Z"⟩, ⟨"PageInterpreter$Structure", "isComplete", "()Z"⟩,
  ⟨"PageInterpreter", "saveState", "()V"⟩, ⟨"PageInterpreter", "dropOldestState", "()V"⟩, ⟨"PageInterpreter$State", "copyFrom", "(LPageInterpreter$State;)V"⟩,
  ⟨"PageInterpreter$Reader", "makeProgram", "()LPageInterpreter$Program;"⟩, ⟨"PageInterpreter$Program", "<init>", "([LPageInterpreter$Operator;[J[II)V"⟩, ⟨"java/lang/Math", "min", "(II)I"⟩,
  ⟨"java/lang/Math", "max", "(II)I"⟩, ⟨"java/util/Arrays", "copyOf", "([JI)[J"⟩, ⟨"java/util/Arrays", "copyOf", "([II)[I"⟩,
  ⟨"PageInterpreter", "tokenCount", "(I)I"⟩, ⟨"PageInterpreter", "setBox", "(IIIII)I"⟩, ⟨"PageInterpreter", "isForm", "(I)Z"⟩,
  ⟨"PageInterpreter", "isSpan", "(II)Z"⟩, ⟨"PageInterpreter$State", "putBox", "(IIIII)V"⟩, ⟨"PageInterpreter", "removeBox", "(I)I"⟩,
  ⟨"PageInterpreter", "define", "(IIII)I"⟩, ⟨"PageInterpreter", "isResource", "(II)Z"⟩, ⟨"PageInterpreter$State", "findResource", "(II)I"⟩,
  ⟨"PageInterpreter$State", "putResource", "(III)V"⟩, ⟨"PageInterpreter", "removeResource", "(II)I"⟩, ⟨"PageInterpreter", "resource", "(II)I"⟩,
  ⟨"PageInterpreter", "setSize", "(II)I"⟩, ⟨"PageInterpreter", "setBudget", "(I)I"⟩, ⟨"PageInterpreter", "undo", "()I"⟩,
  ⟨"PageInterpreter", "run", "()I"⟩, ⟨"PageInterpreter$Machine", "execute", "(LPageInterpreter$State;)I"⟩, ⟨"PageInterpreter$Machine", "begin", "(LPageInterpreter$State;)V"⟩,
  ⟨"PageInterpreter$Paths", "begin", "()V"⟩, ⟨"PageInterpreter$Graphics", "begin", "()V"⟩, ⟨"PageInterpreter$Frame", "begin", "(ILPageInterpreter$Program;)V"⟩,
  ⟨"PageInterpreter$Frame", "isAtEnd", "()Z"⟩, ⟨"PageInterpreter$Machine", "leaveForm", "()V"⟩, ⟨"PageInterpreter$Machine", "popGraphics", "()V"⟩,
  ⟨"PageInterpreter$Frame", "presentOperator", "()LPageInterpreter$Operator;"⟩, ⟨"PageInterpreter$Frame", "passNext", "()V"⟩, ⟨"PageInterpreter$Frame", "pushLiteral", "()Z"⟩,
  ⟨"PageInterpreter$Frame", "isFull", "()Z"⟩, ⟨"PageInterpreter$Frame", "push", "(J)V"⟩, ⟨"PageInterpreter$Machine", "perform", "(LPageInterpreter$Operator;LPageInterpreter$Frame;I)I"⟩,
  ⟨"PageInterpreter$Frame", "hasOperandsOf", "(LPageInterpreter$Operator;)Z"⟩, ⟨"PageInterpreter$Frame", "peek", "(I)J"⟩, ⟨"PageInterpreter$Machine", "pushGraphics", "()V"⟩,
  ⟨"PageInterpreter$Graphics", "copyFrom", "(LPageInterpreter$Graphics;)V"⟩, ⟨"PageInterpreter$Machine", "concat", "(LPageInterpreter$Frame;)I"⟩, ⟨"PageInterpreter$Fraction", "product", "(JJ)J"⟩,
  ⟨"PageInterpreter$Fraction", "numerator", "(J)I"⟩, ⟨"PageInterpreter$Fraction", "denominator", "(J)I"⟩, ⟨"PageInterpreter$Fraction", "sum", "(JJ)J"⟩,
  ⟨"PageInterpreter$Frame", "remove", "(I)V"⟩, ⟨"PageInterpreter$Machine", "addPoint", "(LPageInterpreter$Frame;Z)I"⟩, ⟨"PageInterpreter$Graphics", "toDevice", "(JJI)I"⟩,
  ⟨"PageInterpreter$Fraction", "sixteenths", "(J)I"⟩, ⟨"java/lang/Math", "floorDiv", "(JJ)J"⟩, ⟨"PageInterpreter$Paths", "presentPoints", "()I"⟩,
  ⟨"PageInterpreter$Paths", "startOf", "(I)I"⟩, ⟨"PageInterpreter$Paths", "add", "(IIZ)V"⟩, ⟨"PageInterpreter$Machine", "addRect", "(LPageInterpreter$Frame;)I"⟩,
  ⟨"PageInterpreter$Machine", "setCorners", "(JJJJ)Z"⟩, ⟨"PageInterpreter$Paths", "addPart", "([I)V"⟩, ⟨"PageInterpreter$Paths", "mark", "(Z)V"⟩,
  ⟨"PageInterpreter$Machine", "endPath", "(LPageInterpreter$Operator;II)I"⟩, ⟨"PageInterpreter$Graphics", "isFull", "()Z"⟩, ⟨"PageInterpreter$Items", "isFull", "()Z"⟩,
  ⟨"PageInterpreter$Paths", "end", "()I"⟩, ⟨"PageInterpreter$Items", "add", "(IZLPageInterpreter$Graphics;II)V"⟩, ⟨"PageInterpreter$Graphics", "addClip", "(I)V"⟩,
  ⟨"PageInterpreter$Machine", "setColor", "(LPageInterpreter$Frame;)I"⟩, ⟨"PageInterpreter$Fraction", "isNameValue", "(J)Z"⟩, ⟨"PageInterpreter$Machine", "lookUp", "(I)I"⟩,
  ⟨"PageInterpreter$Fraction", "isIntegerUpTo", "(JI)Z"⟩, ⟨"PageInterpreter$Machine", "draw", "(LPageInterpreter$Frame;)I"⟩, ⟨"PageInterpreter$Machine", "isExecuted", "(I)Z"⟩,
  ⟨"PageInterpreter$State", "findSideOfBox", "(II)J"⟩, ⟨"PageInterpreter$Machine", "repeat", "(LPageInterpreter$Frame;I)I"⟩, ⟨"PageInterpreter$Frame", "beginLoop", "(II)V"⟩,
  ⟨"PageInterpreter$Program", "findPartner", "(I)I"⟩, ⟨"PageInterpreter$Machine", "duplicate", "(LPageInterpreter$Frame;)I"⟩, ⟨"PageInterpreter$Machine", "exchange", "(LPageInterpreter$Frame;)V"⟩,
  ⟨"PageInterpreter$Machine", "calculate", "(LPageInterpreter$Operator;LPageInterpreter$Frame;)I"⟩, ⟨"PageInterpreter$Machine", "apply", "(LPageInterpreter$Operator;JJ)J"⟩, ⟨"PageInterpreter$Fraction", "difference", "(JJ)J"⟩,
  ⟨"PageInterpreter$Fraction", "quotient", "(JJ)J"⟩, ⟨"PageInterpreter$Machine", "count", "(III)V"⟩, ⟨"PageInterpreter", "result", "(I)I"⟩,
  ⟨"PageInterpreter$Machine", "findNumber", "(I)I"⟩, ⟨"PageInterpreter", "operand", "(II)I"⟩, ⟨"PageInterpreter$Machine", "findOperand", "(II)I"⟩,
  ⟨"PageInterpreter$Machine", "findPart", "(JI)I"⟩, ⟨"PageInterpreter", "matrix", "(II)I"⟩, ⟨"PageInterpreter$Machine", "findEntry", "(II)I"⟩,
  ⟨"PageInterpreter", "trace", "(II)I"⟩, ⟨"PageInterpreter$Machine", "findCounted", "(II)I"⟩, ⟨"PageInterpreter", "cell", "(II)I"⟩,
  ⟨"PageInterpreter$State", "hasCell", "(II)Z"⟩, ⟨"PageInterpreter$Items", "latestAt", "(III)I"⟩, ⟨"PageInterpreter$Items", "coversCell", "(III)Z"⟩,
  ⟨"PageInterpreter$Items", "has", "(I)Z"⟩, ⟨"PageInterpreter$Paths", "covers", "(IZII)Z"⟩, ⟨"PageInterpreter$Paths", "endOf", "(I)I"⟩,
  ⟨"PageInterpreter$Paths", "findNext", "(III)I"⟩, ⟨"PageInterpreter$Paths", "crossing", "(IIII)I"⟩, ⟨"PageInterpreter$Paths", "isOddClip", "(I)Z"⟩,
  ⟨"PageInterpreter$Items", "colorOf", "(I)I"⟩, ⟨"PageInterpreter", "countColor", "(I)I"⟩, ⟨"PageInterpreter$Items", "countCells", "(ILPageInterpreter$State;)I"⟩,
  ⟨"PageInterpreter", "itemAt", "(II)I"⟩, ⟨"PageInterpreter", "item", "(II)I"⟩, ⟨"PageInterpreter", "missingItem", "(I)I"⟩,
  ⟨"PageInterpreter$Items", "findProperty", "(IILPageInterpreter$State;)I"⟩, ⟨"PageInterpreter$Paths", "countParts", "(I)I"⟩, ⟨"PageInterpreter$Items", "countPoints", "(I)I"⟩,
  ⟨"PageInterpreter$Items", "countCovered", "(ILPageInterpreter$State;)I"⟩, ⟨"PageInterpreter$Items", "countChanged", "(ILPageInterpreter$State;)I"⟩, ⟨"PageInterpreter", "point", "(III)I"⟩,
  ⟨"PageInterpreter$Items", "findCoordinate", "(III)I"⟩, ⟨"PageInterpreter", "bound", "(II)I"⟩, ⟨"PageInterpreter$Items", "findSide", "(II)I"⟩,
  ⟨"PageInterpreter", "doubleArea", "(I)J"⟩, ⟨"PageInterpreter$Items", "findDoubleArea", "(I)J"⟩, ⟨"PageInterpreter$Paths", "findDoubleArea", "(I)J"⟩,
  ⟨"PageInterpreterModel", "<init>", "()V"⟩, ⟨"PageInterpreterModel", "append", "(I)I"⟩, ⟨"PageInterpreterModel", "in", "(III)Z"⟩,
  ⟨"PageInterpreterModel", "clearBuffer", "()I"⟩, ⟨"PageInterpreterModel", "setStream", "(I)I"⟩, ⟨"PageInterpreterModel", "isRead", "()Z"⟩,
  ⟨"PageInterpreterModel", "isNumeral", "(I)Z"⟩, ⟨"PageInterpreterModel", "numberCode", "()I"⟩, ⟨"PageInterpreterModel", "isDigit", "(II)Z"⟩,
  ⟨"PageInterpreterModel", "divisor", "(JJ)J"⟩, ⟨"PageInterpreterModel", "isLetter", "(I)Z"⟩, ⟨"PageInterpreterModel", "operatorOf", "(J)I"⟩,
  ⟨"PageInterpreterModel", "isAllowed", "()Z"⟩, ⟨"PageInterpreterModel", "opens", "(II)Z"⟩, ⟨"PageInterpreterModel", "openOf", "(I)I"⟩,
  ⟨"PageInterpreterModel", "closes", "(I)Z"⟩, ⟨"PageInterpreterModel", "marks", "()Z"⟩, ⟨"PageInterpreterModel", "save", "()V"⟩,
  ⟨"PageInterpreterModel", "tokenCount", "(I)I"⟩, ⟨"PageInterpreterModel", "setBox", "(IIIII)I"⟩, ⟨"PageInterpreterModel", "isPlace", "(I)Z"⟩,
  ⟨"PageInterpreterModel", "removeBox", "(I)I"⟩, ⟨"PageInterpreterModel", "define", "(IIII)I"⟩, ⟨"PageInterpreterModel", "isName", "(II)Z"⟩,
  ⟨"PageInterpreterModel", "removeResource", "(II)I"⟩, ⟨"PageInterpreterModel", "resource", "(II)I"⟩, ⟨"PageInterpreterModel", "setSize", "(II)I"⟩,
  ⟨"PageInterpreterModel", "setBudget", "(I)I"⟩, ⟨"PageInterpreterModel", "undo", "()I"⟩, ⟨"PageInterpreterModel", "run", "()I"⟩,
  ⟨"PageInterpreterModel", "empties", "()V"⟩, ⟨"PageInterpreterModel", "takesBack", "()V"⟩, ⟨"PageInterpreterModel", "tokenAt", "(I)I"⟩,
  ⟨"PageInterpreterModel", "executes", "(I)V"⟩, ⟨"PageInterpreterModel", "fails", "(I)V"⟩, ⟨"PageInterpreterModel", "pushes", "(JJ)V"⟩,
  ⟨"PageInterpreterModel", "top", "(I)I"⟩, ⟨"PageInterpreterModel", "nexts", "()V"⟩, ⟨"PageInterpreterModel", "wrong", "(I)I"⟩,
  ⟨"PageInterpreterModel", "areOperands", "(I)Z"⟩, ⟨"PageInterpreterModel", "needed", "(I)I"⟩, ⟨"PageInterpreterModel", "isNamed", "()Z"⟩,
  ⟨"PageInterpreterModel", "isInteger", "(II)Z"⟩, ⟨"PageInterpreterModel", "areNumbers", "(I)Z"⟩, ⟨"PageInterpreterModel", "isResource", "(I)Z"⟩,
  ⟨"PageInterpreterModel", "found", "()I"⟩, ⟨"PageInterpreterModel", "isExecuted", "(I)Z"⟩, ⟨"PageInterpreterModel", "isTooMuch", "(I)Z"⟩,
  ⟨"PageInterpreterModel", "multiplies", "()V"⟩, ⟨"PageInterpreterModel", "sum", "(JJIJJII)V"⟩, ⟨"PageInterpreterModel", "goesOn", "(IJJ)V"⟩,
  ⟨"PageInterpreterModel", "becomes", "(JJ)V"⟩, ⟨"PageInterpreterModel", "device", "(JJJJ)V"⟩, ⟨"PageInterpreterModel", "sixteenths", "()I"⟩,
  ⟨"PageInterpreterModel", "floor", "(JJ)J"⟩, ⟨"PageInterpreterModel", "corners", "(IIII)V"⟩, ⟨"PageInterpreterModel", "rectangle", "(JJJJJJ)V"⟩,
  ⟨"PageInterpreterModel", "corner", "(IJJJJ)V"⟩, ⟨"PageInterpreterModel", "isBoxTooMuch", "(I)Z"⟩, ⟨"PageInterpreterModel", "traces", "()V"⟩,
  ⟨"PageInterpreterModel", "does", "(I)V"⟩, ⟨"PageInterpreterModel", "stacks", "(I)V"⟩, ⟨"PageInterpreterModel", "keeps", "()V"⟩,
  ⟨"PageInterpreterModel", "addsPoint", "(I)V"⟩, ⟨"PageInterpreterModel", "addsCorners", "()V"⟩, ⟨"PageInterpreterModel", "ends", "(I)V"⟩,
  ⟨"PageInterpreterModel", "paints", "(II)V"⟩, ⟨"PageInterpreterModel", "keepsPath", "()I"⟩, ⟨"PageInterpreterModel", "clips", "(II)V"⟩,
  ⟨"PageInterpreterModel", "begins", "(I)V"⟩, ⟨"PageInterpreterModel", "repeats", "(I)V"⟩, ⟨"PageInterpreterModel", "nextOf", "(I)I"⟩,
  ⟨"PageInterpreterModel", "result", "(I)I"⟩, ⟨"PageInterpreterModel", "operand", "(II)I"⟩, ⟨"PageInterpreterModel", "matrix", "(II)I"⟩,
  ⟨"PageInterpreterModel", "trace", "(II)I"⟩, ⟨"PageInterpreterModel", "cell", "(II)I"⟩, ⟨"PageInterpreterModel", "isCell", "(II)Z"⟩,
  ⟨"PageInterpreterModel", "latest", "(III)I"⟩, ⟨"PageInterpreterModel", "covers", "(III)Z"⟩, ⟨"PageInterpreterModel", "isCovered", "(IIII)Z"⟩,
  ⟨"PageInterpreterModel", "crossing", "(IIII)I"⟩, ⟨"PageInterpreterModel", "colorOf", "(I)I"⟩, ⟨"PageInterpreterModel", "countColor", "(I)I"⟩,
  ⟨"PageInterpreterModel", "itemAt", "(II)I"⟩, ⟨"PageInterpreterModel", "item", "(II)I"⟩, ⟨"PageInterpreterModel", "refused", "(IZ)I"⟩,
  ⟨"PageInterpreterModel", "coveredBy", "(I)I"⟩, ⟨"PageInterpreterModel", "shownBy", "(I)I"⟩, ⟨"PageInterpreterModel", "point", "(III)I"⟩,
  ⟨"PageInterpreterModel", "bound", "(II)I"⟩, ⟨"PageInterpreterModel", "doubleArea", "(I)J"⟩]
def mbyL : List ByteArray := [
  code, prog_1_method_1_code, prog_11_method_1_code, prog_13_method_1_code, prog_12_method_1_code, prog_7_method_1_code,
  prog_6_method_1_code, prog_9_method_1_code, prog_4_method_1_code, prog_5_method_1_code, prog_1_method_2_code, prog_11_method_2_code,
  prog_1_method_3_code, prog_1_method_4_code, prog_1_method_30_code, prog_1_method_29_code, prog_11_method_4_code, prog_13_method_2_code,
  prog_13_method_3_code, prog_11_method_6_code, prog_11_method_5_code, prog_11_method_7_code, prog_11_method_8_code, prog_11_method_9_code,
  prog_11_method_10_code, prog_11_method_11_code, prog_3_method_4_code, prog_1_method_32_code, prog_11_method_12_code, prog_11_method_13_code,
  prog_3_method_8_code, prog_3_method_5_code, prog_11_method_14_code, prog_11_method_15_code, prog_19_method_54_code, prog_19_method_152_code,
  prog_19_method_56_code, prog_19_method_154_code, prog_20_method_2_code, prog_19_method_155_code, prog_24_method_11_code, prog_13_method_5_code,
  prog_17_method_2_code, prog_13_method_6_code, prog_13_method_8_code, prog_13_method_7_code, prog_13_method_9_code, prog_13_method_4_code,
  prog_1_method_27_code, prog_1_method_28_code, prog_12_method_2_code, prog_11_method_3_code, prog_10_method_1_code, prog_18_method_69_code,
  prog_18_method_65_code, prog_23_method_124_code, prog_23_method_123_code, prog_1_method_5_code, prog_1_method_6_code, prog_1_method_31_code,
  prog_1_method_33_code, prog_12_method_4_code, prog_1_method_7_code, prog_1_method_8_code, prog_1_method_34_code, prog_12_method_6_code,
  prog_12_method_7_code, prog_1_method_9_code, prog_1_method_10_code, prog_1_method_11_code, prog_1_method_12_code, prog_1_method_13_code,
  prog_1_method_14_code, prog_7_method_2_code, prog_7_method_3_code, prog_9_method_2_code, prog_5_method_2_code, prog_4_method_2_code,
  prog_4_method_3_code, prog_7_method_4_code, prog_7_method_8_code, prog_4_method_4_code, prog_4_method_12_code, prog_4_method_5_code,
  prog_4_method_6_code, prog_4_method_7_code, prog_7_method_6_code, prog_4_method_10_code, prog_4_method_9_code, prog_7_method_7_code,
  prog_5_method_3_code, prog_7_method_9_code, prog_3_method_11_code, prog_3_method_2_code, prog_3_method_3_code, prog_3_method_9_code,
  prog_4_method_8_code, prog_7_method_10_code, prog_5_method_6_code, prog_3_method_13_code, prog_18_method_49_code, prog_9_method_3_code,
  prog_9_method_8_code, prog_9_method_4_code, prog_7_method_11_code, prog_7_method_12_code, prog_9_method_5_code, prog_9_method_6_code,
  prog_7_method_13_code, prog_5_method_4_code, prog_6_method_2_code, prog_9_method_7_code, prog_6_method_3_code, prog_5_method_5_code,
  prog_7_method_15_code, prog_3_method_6_code, prog_7_method_14_code, prog_3_method_7_code, prog_7_method_16_code, prog_7_method_17_code,
  prog_12_method_5_code, prog_7_method_18_code, prog_4_method_11_code, prog_10_method_2_code, prog_7_method_19_code, prog_7_method_20_code,
  prog_7_method_21_code, prog_7_method_22_code, prog_3_method_10_code, prog_3_method_12_code, prog_7_method_5_code, prog_1_method_15_code,
  prog_7_method_23_code, prog_1_method_16_code, prog_7_method_24_code, prog_7_method_26_code, prog_1_method_17_code, prog_7_method_25_code,
  prog_1_method_18_code, prog_7_method_27_code, prog_1_method_19_code, prog_12_method_3_code, prog_6_method_7_code, prog_6_method_6_code,
  prog_6_method_4_code, prog_9_method_12_code, prog_9_method_9_code, prog_9_method_13_code, prog_9_method_14_code, prog_9_method_10_code,
  prog_6_method_5_code, prog_1_method_20_code, prog_6_method_8_code, prog_1_method_21_code, prog_1_method_22_code, prog_1_method_26_code,
  prog_6_method_12_code, prog_9_method_11_code, prog_6_method_11_code, prog_6_method_9_code, prog_6_method_10_code, prog_1_method_23_code,
  prog_6_method_13_code, prog_1_method_24_code, prog_6_method_14_code, prog_1_method_25_code, prog_6_method_15_code, prog_9_method_15_code,
  prog_15_method_1_code, prog_15_method_5_code, prog_15_method_3_code, prog_15_method_6_code, prog_15_method_18_code, prog_15_method_9_code,
  prog_15_method_7_code, prog_15_method_11_code, prog_15_method_10_code, prog_15_method_30_code, prog_15_method_8_code, prog_15_method_12_code,
  prog_15_method_17_code, prog_15_method_14_code, prog_15_method_13_code, prog_15_method_15_code, prog_15_method_16_code, prog_15_method_4_code,
  prog_15_method_19_code, prog_15_method_21_code, prog_15_method_20_code, prog_15_method_22_code, prog_15_method_24_code, prog_15_method_23_code,
  prog_15_method_25_code, prog_15_method_26_code, prog_15_method_27_code, prog_15_method_28_code, prog_15_method_29_code, prog_15_method_75_code,
  prog_15_method_63_code, prog_15_method_34_code, prog_15_method_45_code, prog_15_method_74_code, prog_15_method_73_code, prog_15_method_64_code,
  prog_15_method_46_code, prog_15_method_69_code, prog_15_method_55_code, prog_15_method_52_code, prog_15_method_51_code, prog_15_method_49_code,
  prog_15_method_48_code, prog_15_method_47_code, prog_15_method_53_code, prog_15_method_50_code, prog_15_method_54_code, prog_15_method_56_code,
  prog_15_method_57_code, prog_15_method_35_code, prog_15_method_32_code, prog_15_method_31_code, prog_15_method_38_code, prog_15_method_37_code,
  prog_15_method_36_code, prog_15_method_59_code, prog_15_method_60_code, prog_15_method_58_code, prog_15_method_61_code, prog_15_method_72_code,
  prog_15_method_71_code, prog_15_method_70_code, prog_15_method_33_code, prog_15_method_40_code, prog_15_method_62_code, prog_15_method_65_code,
  prog_15_method_43_code, prog_15_method_39_code, prog_15_method_44_code, prog_15_method_66_code, prog_15_method_68_code, prog_15_method_67_code,
  prog_15_method_76_code, prog_15_method_77_code, prog_15_method_78_code, prog_15_method_79_code, prog_15_method_84_code, prog_15_method_80_code,
  prog_15_method_82_code, prog_15_method_81_code, prog_15_method_41_code, prog_15_method_42_code, prog_15_method_83_code, prog_15_method_85_code,
  prog_15_method_86_code, prog_15_method_90_code, prog_15_method_89_code, prog_15_method_87_code, prog_15_method_88_code, prog_15_method_91_code,
  prog_15_method_92_code, prog_15_method_93_code]
def mreL : List (Option FieldType) := [
  (some Jvm.ClassFile.FieldType.boolean), none, none, none, none,
  none, none, none, none, none,
  (some Jvm.ClassFile.FieldType.int), (some Jvm.ClassFile.FieldType.boolean), (some Jvm.ClassFile.FieldType.int), (some Jvm.ClassFile.FieldType.int), (some Jvm.ClassFile.FieldType.boolean),
  (some Jvm.ClassFile.FieldType.boolean), (some Jvm.ClassFile.FieldType.int), none, none, (some Jvm.ClassFile.FieldType.int),
  (some Jvm.ClassFile.FieldType.int), (some Jvm.ClassFile.FieldType.int), (some Jvm.ClassFile.FieldType.boolean), (some Jvm.ClassFile.FieldType.boolean), (some Jvm.ClassFile.FieldType.boolean),
  (some Jvm.ClassFile.FieldType.boolean), (some Jvm.ClassFile.FieldType.long), (some Jvm.ClassFile.FieldType.boolean), (some Jvm.ClassFile.FieldType.long), (some Jvm.ClassFile.FieldType.int),
  (some Jvm.ClassFile.FieldType.long), (some Jvm.ClassFile.FieldType.boolean), (some (Jvm.ClassFile.FieldType.object "PageInterpreter$Operator")), (some Jvm.ClassFile.FieldType.boolean), (some Jvm.ClassFile.FieldType.int),
  (some Jvm.ClassFile.FieldType.byte), (some Jvm.ClassFile.FieldType.char), (some Jvm.ClassFile.FieldType.boolean), (some Jvm.ClassFile.FieldType.char), none,
  (some Jvm.ClassFile.FieldType.int), (some Jvm.ClassFile.FieldType.boolean), (some Jvm.ClassFile.FieldType.int), (some Jvm.ClassFile.FieldType.boolean), none,
  (some Jvm.ClassFile.FieldType.boolean), (some Jvm.ClassFile.FieldType.boolean), (some Jvm.ClassFile.FieldType.boolean), none, none,
  none, (some (Jvm.ClassFile.FieldType.object "PageInterpreter$Program")), none, (some Jvm.ClassFile.FieldType.int), (some Jvm.ClassFile.FieldType.int),
  (some (Jvm.ClassFile.FieldType.array Jvm.ClassFile.FieldType.long)), (some (Jvm.ClassFile.FieldType.array Jvm.ClassFile.FieldType.int)), (some Jvm.ClassFile.FieldType.int), (some Jvm.ClassFile.FieldType.int), (some Jvm.ClassFile.FieldType.boolean),
  (some Jvm.ClassFile.FieldType.boolean), none, (some Jvm.ClassFile.FieldType.int), (some Jvm.ClassFile.FieldType.int), (some Jvm.ClassFile.FieldType.boolean),
  (some Jvm.ClassFile.FieldType.int), none, (some Jvm.ClassFile.FieldType.int), (some Jvm.ClassFile.FieldType.int), (some Jvm.ClassFile.FieldType.int),
  (some Jvm.ClassFile.FieldType.int), (some Jvm.ClassFile.FieldType.int), (some Jvm.ClassFile.FieldType.int), (some Jvm.ClassFile.FieldType.int), none,
  none, none, none, (some Jvm.ClassFile.FieldType.boolean), none,
  none, (some (Jvm.ClassFile.FieldType.object "PageInterpreter$Operator")), none, (some Jvm.ClassFile.FieldType.boolean), (some Jvm.ClassFile.FieldType.boolean),
  none, (some Jvm.ClassFile.FieldType.int), (some Jvm.ClassFile.FieldType.boolean), (some Jvm.ClassFile.FieldType.long), none,
  none, (some Jvm.ClassFile.FieldType.int), (some Jvm.ClassFile.FieldType.long), (some Jvm.ClassFile.FieldType.int), (some Jvm.ClassFile.FieldType.int),
  (some Jvm.ClassFile.FieldType.long), none, (some Jvm.ClassFile.FieldType.int), (some Jvm.ClassFile.FieldType.int), (some Jvm.ClassFile.FieldType.int),
  (some Jvm.ClassFile.FieldType.long), (some Jvm.ClassFile.FieldType.int), (some Jvm.ClassFile.FieldType.int), none, (some Jvm.ClassFile.FieldType.int),
  (some Jvm.ClassFile.FieldType.boolean), none, none, (some Jvm.ClassFile.FieldType.int), (some Jvm.ClassFile.FieldType.boolean),
  (some Jvm.ClassFile.FieldType.boolean), (some Jvm.ClassFile.FieldType.int), none, none, (some Jvm.ClassFile.FieldType.int),
  (some Jvm.ClassFile.FieldType.boolean), (some Jvm.ClassFile.FieldType.int), (some Jvm.ClassFile.FieldType.boolean), (some Jvm.ClassFile.FieldType.int), (some Jvm.ClassFile.FieldType.boolean),
  (some Jvm.ClassFile.FieldType.long), (some Jvm.ClassFile.FieldType.int), none, (some Jvm.ClassFile.FieldType.int), (some Jvm.ClassFile.FieldType.int),
  none, (some Jvm.ClassFile.FieldType.int), (some Jvm.ClassFile.FieldType.long), (some Jvm.ClassFile.FieldType.long), (some Jvm.ClassFile.FieldType.long),
  none, (some Jvm.ClassFile.FieldType.int), (some Jvm.ClassFile.FieldType.int), (some Jvm.ClassFile.FieldType.int), (some Jvm.ClassFile.FieldType.int),
  (some Jvm.ClassFile.FieldType.int), (some Jvm.ClassFile.FieldType.int), (some Jvm.ClassFile.FieldType.int), (some Jvm.ClassFile.FieldType.int), (some Jvm.ClassFile.FieldType.int),
  (some Jvm.ClassFile.FieldType.int), (some Jvm.ClassFile.FieldType.boolean), (some Jvm.ClassFile.FieldType.int), (some Jvm.ClassFile.FieldType.boolean), (some Jvm.ClassFile.FieldType.boolean),
  (some Jvm.ClassFile.FieldType.boolean), (some Jvm.ClassFile.FieldType.int), (some Jvm.ClassFile.FieldType.int), (some Jvm.ClassFile.FieldType.int), (some Jvm.ClassFile.FieldType.boolean),
  (some Jvm.ClassFile.FieldType.int), (some Jvm.ClassFile.FieldType.int), (some Jvm.ClassFile.FieldType.int), (some Jvm.ClassFile.FieldType.int), (some Jvm.ClassFile.FieldType.int),
  (some Jvm.ClassFile.FieldType.int), (some Jvm.ClassFile.FieldType.int), (some Jvm.ClassFile.FieldType.int), (some Jvm.ClassFile.FieldType.int), (some Jvm.ClassFile.FieldType.int),
  (some Jvm.ClassFile.FieldType.int), (some Jvm.ClassFile.FieldType.int), (some Jvm.ClassFile.FieldType.int), (some Jvm.ClassFile.FieldType.int), (some Jvm.ClassFile.FieldType.int),
  (some Jvm.ClassFile.FieldType.long), (some Jvm.ClassFile.FieldType.long), (some Jvm.ClassFile.FieldType.long), none, (some Jvm.ClassFile.FieldType.int),
  (some Jvm.ClassFile.FieldType.boolean), (some Jvm.ClassFile.FieldType.int), (some Jvm.ClassFile.FieldType.int), (some Jvm.ClassFile.FieldType.boolean), (some Jvm.ClassFile.FieldType.boolean),
  (some Jvm.ClassFile.FieldType.int), (some Jvm.ClassFile.FieldType.boolean), (some Jvm.ClassFile.FieldType.long), (some Jvm.ClassFile.FieldType.boolean), (some Jvm.ClassFile.FieldType.int),
  (some Jvm.ClassFile.FieldType.boolean), (some Jvm.ClassFile.FieldType.boolean), (some Jvm.ClassFile.FieldType.int), (some Jvm.ClassFile.FieldType.boolean), (some Jvm.ClassFile.FieldType.boolean),
  none, (some Jvm.ClassFile.FieldType.int), (some Jvm.ClassFile.FieldType.int), (some Jvm.ClassFile.FieldType.boolean), (some Jvm.ClassFile.FieldType.int),
  (some Jvm.ClassFile.FieldType.int), (some Jvm.ClassFile.FieldType.boolean), (some Jvm.ClassFile.FieldType.int), (some Jvm.ClassFile.FieldType.int), (some Jvm.ClassFile.FieldType.int),
  (some Jvm.ClassFile.FieldType.int), (some Jvm.ClassFile.FieldType.int), (some Jvm.ClassFile.FieldType.int), none, none,
  (some Jvm.ClassFile.FieldType.int), none, none, none, (some Jvm.ClassFile.FieldType.int),
  none, (some Jvm.ClassFile.FieldType.int), (some Jvm.ClassFile.FieldType.boolean), (some Jvm.ClassFile.FieldType.int), (some Jvm.ClassFile.FieldType.boolean),
  (some Jvm.ClassFile.FieldType.boolean), (some Jvm.ClassFile.FieldType.boolean), (some Jvm.ClassFile.FieldType.boolean), (some Jvm.ClassFile.FieldType.int), (some Jvm.ClassFile.FieldType.boolean),
  (some Jvm.ClassFile.FieldType.boolean), none, none, none, none,
  none, (some Jvm.ClassFile.FieldType.int), (some Jvm.ClassFile.FieldType.long), none, none,
  none, (some Jvm.ClassFile.FieldType.boolean), none, none, none,
  none, none, none, none, none,
  (some Jvm.ClassFile.FieldType.int), none, none, none, (some Jvm.ClassFile.FieldType.int),
  (some Jvm.ClassFile.FieldType.int), (some Jvm.ClassFile.FieldType.int), (some Jvm.ClassFile.FieldType.int), (some Jvm.ClassFile.FieldType.int), (some Jvm.ClassFile.FieldType.int),
  (some Jvm.ClassFile.FieldType.boolean), (some Jvm.ClassFile.FieldType.int), (some Jvm.ClassFile.FieldType.boolean), (some Jvm.ClassFile.FieldType.boolean), (some Jvm.ClassFile.FieldType.int),
  (some Jvm.ClassFile.FieldType.int), (some Jvm.ClassFile.FieldType.int), (some Jvm.ClassFile.FieldType.int), (some Jvm.ClassFile.FieldType.int), (some Jvm.ClassFile.FieldType.int),
  (some Jvm.ClassFile.FieldType.int), (some Jvm.ClassFile.FieldType.int), (some Jvm.ClassFile.FieldType.int), (some Jvm.ClassFile.FieldType.int), (some Jvm.ClassFile.FieldType.long)]
def mhtL : List (Nat × Nat) := [
  (12, 326), (4, 81), (2, 40), (1, 20), (1, 20), (3, 60), (2, 40), (1, 20), (1, 20), (1, 20),
  (1, 21), (0, 0), (0, 0), (8, 179), (1, 22), (0, 0), (7, 156), (1, 20), (0, 0), (1, 21),
  (0, 0), (2, 40), (1, 20), (0, 0), (0, 0), (6, 132), (0, 0), (1, 22), (2, 46), (1, 22),
  (0, 0), (0, 0), (5, 109), (4, 85), (1, 20), (0, 0), (3, 64), (0, 0), (2, 43), (1, 22),
  (0, 0), (2, 46), (0, 0), (1, 22), (0, 0), (1, 22), (1, 20), (0, 0), (2, 62), (0, 0),
  (1, 40), (3, 87), (2, 62), (0, 0), (0, 0), (1, 40), (1, 40), (2, 42), (3, 82), (1, 22),
  (1, 22), (2, 42), (3, 82), (3, 82), (2, 42), (2, 42), (2, 42), (3, 82), (3, 64), (3, 82),
  (3, 82), (2, 62), (7, 202), (6, 175), (1, 22), (0, 0), (0, 0), (0, 0), (0, 0), (1, 20),
  (0, 0), (1, 20), (0, 0), (1, 22), (0, 0), (0, 0), (5, 152), (1, 22), (0, 0), (2, 61),
  (1, 40), (2, 58), (1, 31), (0, 0), (0, 0), (1, 31), (0, 0), (3, 87), (2, 58), (1, 25),
  (0, 0), (1, 21), (0, 0), (0, 0), (4, 123), (3, 87), (1, 23), (0, 0), (2, 65), (0, 0),
  (0, 0), (0, 0), (1, 40), (0, 0), (4, 87), (1, 21), (3, 64), (1, 21), (4, 123), (0, 0),
  (2, 42), (2, 43), (1, 21), (0, 0), (1, 22), (1, 22), (3, 82), (2, 58), (1, 31), (1, 31),
  (0, 0), (1, 22), (0, 0), (3, 66), (2, 43), (1, 21), (3, 65), (2, 43), (1, 22), (0, 0),
  (4, 107), (0, 0), (3, 83), (2, 56), (0, 0), (1, 28), (0, 0), (0, 0), (0, 0), (0, 0),
  (1, 21), (5, 132), (4, 107), (4, 107), (6, 156), (0, 0), (5, 133), (1, 21), (1, 21), (3, 83),
  (4, 107), (3, 66), (2, 42), (4, 91), (3, 66), (3, 71), (2, 50), (1, 23), (1, 20), (1, 22),
  (0, 0), (0, 0), (4, 93), (3, 71), (1, 22), (2, 44), (1, 22), (0, 0), (1, 22), (0, 0),
  (2, 46), (1, 23), (0, 0), (0, 0), (0, 0), (0, 0), (1, 22), (2, 42), (1, 22), (1, 22),
  (2, 43), (1, 22), (2, 43), (2, 43), (1, 22), (1, 22), (0, 0), (11, 305), (0, 0), (0, 0),
  (0, 0), (10, 283), (0, 0), (1, 21), (0, 0), (0, 0), (9, 261), (2, 44), (0, 0), (1, 21),
  (1, 22), (1, 21), (2, 43), (1, 21), (0, 0), (8, 240), (4, 119), (3, 80), (2, 55), (1, 29),
  (4, 119), (1, 25), (0, 0), (7, 212), (6, 176), (5, 147), (7, 212), (0, 0), (3, 68), (2, 45),
  (0, 0), (0, 0), (0, 0), (2, 47), (1, 22), (0, 0), (0, 0), (1, 22), (2, 44), (1, 21),
  (1, 22), (1, 22), (1, 22), (1, 22), (4, 110), (1, 22), (3, 86), (2, 58), (1, 29), (0, 0),
  (0, 0), (4, 110), (4, 110), (5, 136), (0, 0), (3, 86), (4, 110), (1, 22), (1, 22), (1, 22)]
def mowL : List Nat := [
  0, 1, 2, 3, 4, 5, 7, 6, 8, 9, 1, 2, 1, 1, 1, 1, 2, 3, 3, 2, 2, 2, 2, 2, 2, 2, 12, 1, 2, 2,
  12, 12, 2, 2, 15, 15, 15, 15, 16, 15, 18, 3, 13, 3, 3, 3, 3, 3, 1, 1, 4, 2, 10, 14, 14, 17, 17, 1, 1, 1,
  1, 4, 1, 1, 1, 4, 4, 1, 1, 1, 1, 1, 1, 5, 5, 6, 9, 8, 8, 5, 5, 8, 8, 8, 8, 8, 5, 8, 8, 5,
  9, 5, 12, 12, 12, 12, 8, 5, 9, 12, 14, 6, 6, 6, 5, 5, 6, 6, 5, 9, 7, 6, 7, 9, 5, 12, 5, 12, 5, 5,
  4, 5, 8, 10, 5, 5, 5, 5, 12, 12, 5, 1, 5, 1, 5, 5, 1, 5, 1, 5, 1, 4, 7, 7, 7, 6, 6, 6, 6, 6,
  7, 1, 7, 1, 1, 1, 7, 6, 7, 7, 7, 1, 7, 1, 7, 1, 7, 6, 11, 11, 11, 11, 11, 11, 11, 11, 11, 11, 11, 11,
  11, 11, 11, 11, 11, 11, 11, 11, 11, 11, 11, 11, 11, 11, 11, 11, 11, 11, 11, 11, 11, 11, 11, 11, 11, 11, 11, 11, 11, 11,
  11, 11, 11, 11, 11, 11, 11, 11, 11, 11, 11, 11, 11, 11, 11, 11, 11, 11, 11, 11, 11, 11, 11, 11, 11, 11, 11, 11, 11, 11,
  11, 11, 11, 11, 11, 11, 11, 11, 11, 11, 11, 11, 11, 11, 11, 11, 11, 11, 11, 11]
def onL : List String := ["PageInterpreterLaw", "PageInterpreter", "PageInterpreter$Reader", "PageInterpreter$Structure", "PageInterpreter$State", "PageInterpreter$Machine", "PageInterpreter$Paths", "PageInterpreter$Items", "PageInterpreter$Frame", "PageInterpreter$Graphics", "PageInterpreter$Program", "PageInterpreterModel", "PageInterpreter$Fraction", "java/lang/Enum", "java/lang/Math", "java/lang/String", "java/lang/StringLatin1", "java/util/Arrays", "jdk/internal/util/Preconditions"]
def tab (j : Nat) : Nat × List CE := tabL.getD j (0, [])
def mty (j : Nat) : MethodName := mtyL.getD j ⟨"", "", ""⟩
def mby (j : Nat) : ByteArray := mbyL.getD j ⟨#[]⟩
def mre (j : Nat) : Option FieldType := mreL.getD j none
def mht (j : Nat) : Nat := (mhtL.getD j (0, 0)).1
def mlo (j : Nat) : Nat := (mhtL.getD j (0, 0)).2
def mow (j : Nat) : Nat := mowL.getD j 0
def onm (o : Nat) : String := onL.getD o ""
theorem tb_0 : tab 0 = (4, k_0_0) := rfl
theorem tb_1 : tab 1 = (2, k_1_0) := rfl
theorem tb_2 : tab 2 = (1, k_2_0) := rfl
theorem tb_3 : tab 3 = (1, k_3_0) := rfl
theorem tb_4 : tab 4 = (1, k_4_0) := rfl
theorem tb_5 : tab 5 = (2, k_5_0) := rfl
theorem tb_6 : tab 6 = (1, k_6_0) := rfl
theorem tb_7 : tab 7 = (1, k_7_0) := rfl
theorem tb_8 : tab 8 = (1, k_8_0) := rfl
theorem tb_9 : tab 9 = (1, k_9_0) := rfl
theorem tb_10 : tab 10 = (2, k_10_0) := rfl
theorem tb_11 : tab 11 = (2, k_11_0) := rfl
theorem tb_12 : tab 12 = (2, k_12_0) := rfl
theorem tb_13 : tab 13 = (4, k_13_0) := rfl
theorem tb_14 : tab 14 = (1, k_14_0) := rfl
theorem tb_15 : tab 15 = (3, k_15_0) := rfl
theorem tb_16 : tab 16 = (4, k_16_0) := rfl
theorem tb_17 : tab 17 = (1, k_17_0) := rfl
theorem tb_18 : tab 18 = (1, k_18_0) := rfl
theorem tb_19 : tab 19 = (3, k_19_0) := rfl
theorem tb_20 : tab 20 = (2, k_20_0) := rfl
theorem tb_21 : tab 21 = (4, k_21_0) := rfl
theorem tb_22 : tab 22 = (1, k_22_0) := rfl
theorem tb_23 : tab 23 = (1, k_23_0) := rfl
theorem tb_24 : tab 24 = (1, k_24_0) := rfl
theorem tb_25 : tab 25 = (5, k_25_0) := rfl
theorem tb_26 : tab 26 = (1, k_26_0) := rfl
theorem tb_27 : tab 27 = (1, k_27_0) := rfl
theorem tb_28 : tab 28 = (9, k_28_0) := rfl
theorem tb_29 : tab 29 = (5, k_29_0) := rfl
theorem tb_30 : tab 30 = (12, k_30_0) := rfl
theorem tb_31 : tab 31 = (2, k_31_0) := rfl
theorem tb_32 : tab 32 = (4, k_32_0) := rfl
theorem tb_33 : tab 33 = (5, k_33_0) := rfl
theorem tb_34 : tab 34 = (1, k_34_0) := rfl
theorem tb_35 : tab 35 = (1, k_35_0) := rfl
theorem tb_36 : tab 36 = (2, k_36_0) := rfl
theorem tb_37 : tab 37 = (1, k_37_0) := rfl
theorem tb_38 : tab 38 = (2, k_38_0) := rfl
theorem tb_39 : tab 39 = (2, k_39_0) := rfl
theorem tb_40 : tab 40 = (3, k_40_0) := rfl
theorem tb_41 : tab 41 = (4, k_41_0) := rfl
theorem tb_42 : tab 42 = (1, k_42_0) := rfl
theorem tb_43 : tab 43 = (3, k_43_0) := rfl
theorem tb_44 : tab 44 = (3, k_44_0) := rfl
theorem tb_45 : tab 45 = (5, k_45_0) := rfl
theorem tb_46 : tab 46 = (3, k_46_0) := rfl
theorem tb_47 : tab 47 = (1, k_47_0) := rfl
theorem tb_48 : tab 48 = (1, k_48_0) := rfl
theorem tb_49 : tab 49 = (3, k_49_0) := rfl
theorem tb_50 : tab 50 = (3, k_50_0) := rfl
theorem tb_51 : tab 51 = (1, k_51_0) := rfl
theorem tb_52 : tab 52 = (6, k_52_0) := rfl
theorem tb_53 : tab 53 = (2, k_53_0) := rfl
theorem tb_54 : tab 54 = (2, k_54_0) := rfl
theorem tb_55 : tab 55 = (3, k_55_0) := rfl
theorem tb_56 : tab 56 = (3, k_56_0) := rfl
theorem tb_57 : tab 57 = (3, k_57_0) := rfl
theorem tb_58 : tab 58 = (7, k_58_0) := rfl
theorem tb_59 : tab 59 = (1, k_59_0) := rfl
theorem tb_60 : tab 60 = (2, k_60_0) := rfl
theorem tb_61 : tab 61 = (6, k_61_0) := rfl
theorem tb_62 : tab 62 = (2, k_62_0) := rfl
theorem tb_63 : tab 63 = (6, k_63_0) := rfl
theorem tb_64 : tab 64 = (2, k_64_0) := rfl
theorem tb_65 : tab 65 = (3, k_65_0) := rfl
theorem tb_66 : tab 66 = (4, k_66_0) := rfl
theorem tb_67 : tab 67 = (4, k_67_0) := rfl
theorem tb_68 : tab 68 = (4, k_68_0) := rfl
theorem tb_69 : tab 69 = (3, k_69_0) := rfl
theorem tb_70 : tab 70 = (3, k_70_0) := rfl
theorem tb_71 : tab 71 = (1, k_71_0) := rfl
theorem tb_72 : tab 72 = (1, k_72_0) := rfl
theorem tb_73 : tab 73 = (8, k_73_0) := rfl
theorem tb_74 : tab 74 = (2, k_74_0) := rfl
theorem tb_75 : tab 75 = (1, k_75_0) := rfl
theorem tb_76 : tab 76 = (1, k_76_0) := rfl
theorem tb_77 : tab 77 = (3, k_77_0) := rfl
theorem tb_78 : tab 78 = (1, k_78_0) := rfl
theorem tb_79 : tab 79 = (1, k_79_0) := rfl
theorem tb_80 : tab 80 = (1, k_80_0) := rfl
theorem tb_81 : tab 81 = (1, k_81_0) := rfl
theorem tb_82 : tab 82 = (1, k_82_0) := rfl
theorem tb_83 : tab 83 = (1, k_83_0) := rfl
theorem tb_84 : tab 84 = (1, k_84_0) := rfl
theorem tb_85 : tab 85 = (3, k_85_0) := rfl
theorem tb_86 : tab 86 = (4, k_86_0) := rfl
theorem tb_87 : tab 87 = (3, k_87_0) := rfl
theorem tb_88 : tab 88 = (3, k_88_0) := rfl
theorem tb_89 : tab 89 = (1, k_89_0) := rfl
theorem tb_90 : tab 90 = (2, k_90_0) := rfl
theorem tb_91 : tab 91 = (10, k_91_0) := rfl
theorem tb_92 : tab 92 = (6, k_92_0) := rfl
theorem tb_93 : tab 93 = (2, k_93_0) := rfl
theorem tb_94 : tab 94 = (2, k_94_0) := rfl
theorem tb_95 : tab 95 = (8, k_95_0) := rfl
theorem tb_96 : tab 96 = (2, k_96_0) := rfl
theorem tb_97 : tab 97 = (5, k_97_0) := rfl
theorem tb_98 : tab 98 = (10, k_98_0) := rfl
theorem tb_99 : tab 99 = (6, k_99_0) := rfl
theorem tb_100 : tab 100 = (6, k_100_0) := rfl
theorem tb_101 : tab 101 = (1, k_101_0) := rfl
theorem tb_102 : tab 102 = (2, k_102_0) := rfl
theorem tb_103 : tab 103 = (4, k_103_0) := rfl
theorem tb_104 : tab 104 = (10, k_104_0) := rfl
theorem tb_105 : tab 105 = (17, k_105_0) := rfl
theorem tb_106 : tab 106 = (3, k_106_0) := rfl
theorem tb_107 : tab 107 = (2, k_107_0) := rfl
theorem tb_108 : tab 108 = (8, k_108_0) := rfl
theorem tb_109 : tab 109 = (1, k_109_0) := rfl
theorem tb_110 : tab 110 = (1, k_110_0) := rfl
theorem tb_111 : tab 111 = (2, k_111_0) := rfl
theorem tb_112 : tab 112 = (6, k_112_0) := rfl
theorem tb_113 : tab 113 = (2, k_113_0) := rfl
theorem tb_114 : tab 114 = (6, k_114_0) := rfl
theorem tb_115 : tab 115 = (2, k_115_0) := rfl
theorem tb_116 : tab 116 = (4, k_116_0) := rfl
theorem tb_117 : tab 117 = (3, k_117_0) := rfl
theorem tb_118 : tab 118 = (7, k_118_0) := rfl
theorem tb_119 : tab 119 = (3, k_119_0) := rfl
theorem tb_120 : tab 120 = (3, k_120_0) := rfl
theorem tb_121 : tab 121 = (4, k_121_0) := rfl
theorem tb_122 : tab 122 = (3, k_122_0) := rfl
theorem tb_123 : tab 123 = (2, k_123_0) := rfl
theorem tb_124 : tab 124 = (2, k_124_0) := rfl
theorem tb_125 : tab 125 = (6, k_125_0) := rfl
theorem tb_126 : tab 126 = (9, k_126_0) := rfl
theorem tb_127 : tab 127 = (5, k_127_0) := rfl
theorem tb_128 : tab 128 = (8, k_128_0) := rfl
theorem tb_129 : tab 129 = (6, k_129_0) := rfl
theorem tb_130 : tab 130 = (4, k_130_0) := rfl
theorem tb_131 : tab 131 = (2, k_131_0) := rfl
theorem tb_132 : tab 132 = (2, k_132_0) := rfl
theorem tb_133 : tab 133 = (3, k_133_0) := rfl
theorem tb_134 : tab 134 = (4, k_134_0) := rfl
theorem tb_135 : tab 135 = (3, k_135_0) := rfl
theorem tb_136 : tab 136 = (3, k_136_0) := rfl
theorem tb_137 : tab 137 = (3, k_137_0) := rfl
theorem tb_138 : tab 138 = (3, k_138_0) := rfl
theorem tb_139 : tab 139 = (3, k_139_0) := rfl
theorem tb_140 : tab 140 = (4, k_140_0) := rfl
theorem tb_141 : tab 141 = (3, k_141_0) := rfl
theorem tb_142 : tab 142 = (5, k_142_0) := rfl
theorem tb_143 : tab 143 = (8, k_143_0) := rfl
theorem tb_144 : tab 144 = (2, k_144_0) := rfl
theorem tb_145 : tab 145 = (9, k_145_0) := rfl
theorem tb_146 : tab 146 = (2, k_146_0) := rfl
theorem tb_147 : tab 147 = (4, k_147_0) := rfl
theorem tb_148 : tab 148 = (9, k_148_0) := rfl
theorem tb_149 : tab 149 = (2, k_149_0) := rfl
theorem tb_150 : tab 150 = (2, k_150_0) := rfl
theorem tb_151 : tab 151 = (2, k_151_0) := rfl
theorem tb_152 : tab 152 = (6, k_152_0) := rfl
theorem tb_153 : tab 153 = (4, k_153_0) := rfl
theorem tb_154 : tab 154 = (4, k_154_0) := rfl
theorem tb_155 : tab 155 = (2, k_155_0) := rfl
theorem tb_156 : tab 156 = (4, k_156_0) := rfl
theorem tb_157 : tab 157 = (4, k_157_0) := rfl
theorem tb_158 : tab 158 = (2, k_158_0) := rfl
theorem tb_159 : tab 159 = (6, k_159_0) := rfl
theorem tb_160 : tab 160 = (7, k_160_0) := rfl
theorem tb_161 : tab 161 = (5, k_161_0) := rfl
theorem tb_162 : tab 162 = (5, k_162_0) := rfl
theorem tb_163 : tab 163 = (4, k_163_0) := rfl
theorem tb_164 : tab 164 = (6, k_164_0) := rfl
theorem tb_165 : tab 165 = (3, k_165_0) := rfl
theorem tb_166 : tab 166 = (2, k_166_0) := rfl
theorem tb_167 : tab 167 = (8, k_167_0) := rfl
theorem tb_168 : tab 168 = (2, k_168_0) := rfl
theorem tb_169 : tab 169 = (2, k_169_0) := rfl
theorem tb_170 : tab 170 = (3, k_170_0) := rfl
theorem tb_171 : tab 171 = (2, k_171_0) := rfl
theorem tb_172 : tab 172 = (5, k_172_0) := rfl
theorem tb_173 : tab 173 = (3, k_173_0) := rfl
theorem tb_174 : tab 174 = (2, k_174_0) := rfl
theorem tb_175 : tab 175 = (8, k_175_0) := rfl
theorem tb_176 : tab 176 = (3, k_176_0) := rfl
theorem tb_177 : tab 177 = (10, k_177_0) := rfl
theorem tb_178 : tab 178 = (2, k_178_0) := rfl
theorem tb_179 : tab 179 = (5, k_179_0) := rfl
theorem tb_180 : tab 180 = (2, k_180_0) := rfl
theorem tb_181 : tab 181 = (4, k_181_0) := rfl
theorem tb_182 : tab 182 = (4, k_182_0) := rfl
theorem tb_183 : tab 183 = (3, k_183_0) := rfl
theorem tb_184 : tab 184 = (2, k_184_0) := rfl
theorem tb_185 : tab 185 = (2, k_185_0) := rfl
theorem tb_186 : tab 186 = (3, k_186_0) := rfl
theorem tb_187 : tab 187 = (7, k_187_0) := rfl
theorem tb_188 : tab 188 = (1, k_188_0) := rfl
theorem tb_189 : tab 189 = (2, k_189_0) := rfl
theorem tb_190 : tab 190 = (7, k_190_0) := rfl
theorem tb_191 : tab 191 = (2, k_191_0) := rfl
theorem tb_192 : tab 192 = (5, k_192_0) := rfl
theorem tb_193 : tab 193 = (4, k_193_0) := rfl
theorem tb_194 : tab 194 = (3, k_194_0) := rfl
theorem tb_195 : tab 195 = (3, k_195_0) := rfl
theorem tb_196 : tab 196 = (2, k_196_0) := rfl
theorem tb_197 : tab 197 = (2, k_197_0) := rfl
theorem tb_198 : tab 198 = (1, k_198_0) := rfl
theorem tb_199 : tab 199 = (2, k_199_0) := rfl
theorem tb_200 : tab 200 = (2, k_200_0) := rfl
theorem tb_201 : tab 201 = (3, k_201_0) := rfl
theorem tb_202 : tab 202 = (2, k_202_0) := rfl
theorem tb_203 : tab 203 = (5, k_203_0) := rfl
theorem tb_204 : tab 204 = (2, k_204_0) := rfl
theorem tb_205 : tab 205 = (2, k_205_0) := rfl
theorem tb_206 : tab 206 = (3, k_206_0) := rfl
theorem tb_207 : tab 207 = (3, k_207_0) := rfl
theorem tb_208 : tab 208 = (1, k_208_0) := rfl
theorem tb_209 : tab 209 = (1, k_209_0) := rfl
theorem tb_210 : tab 210 = (3, k_210_0) := rfl
theorem tb_211 : tab 211 = (4, k_211_0) := rfl
theorem tb_212 : tab 212 = (3, k_212_0) := rfl
theorem tb_213 : tab 213 = (3, k_213_0) := rfl
theorem tb_214 : tab 214 = (4, k_214_0) := rfl
theorem tb_215 : tab 215 = (2, k_215_0) := rfl
theorem tb_216 : tab 216 = (5, k_216_0) := rfl
theorem tb_217 : tab 217 = (20, k_217_0) := rfl
theorem tb_218 : tab 218 = (6, k_218_0) := rfl
theorem tb_219 : tab 219 = (7, k_219_0) := rfl
theorem tb_220 : tab 220 = (9, k_220_0) := rfl
theorem tb_221 : tab 221 = (3, k_221_0) := rfl
theorem tb_222 : tab 222 = (6, k_222_0) := rfl
theorem tb_223 : tab 223 = (9, k_223_0) := rfl
theorem tb_224 : tab 224 = (17, k_224_0) := rfl
theorem tb_225 : tab 225 = (10, k_225_0) := rfl
theorem tb_226 : tab 226 = (3, k_226_0) := rfl
theorem tb_227 : tab 227 = (1, k_227_0) := rfl
theorem tb_228 : tab 228 = (6, k_228_0) := rfl
theorem tb_229 : tab 229 = (4, k_229_0) := rfl
theorem tb_230 : tab 230 = (2, k_230_0) := rfl
theorem tb_231 : tab 231 = (2, k_231_0) := rfl
theorem tb_232 : tab 232 = (2, k_232_0) := rfl
theorem tb_233 : tab 233 = (2, k_233_0) := rfl
theorem tb_234 : tab 234 = (6, k_234_0) := rfl
theorem tb_235 : tab 235 = (3, k_235_0) := rfl
theorem tb_236 : tab 236 = (3, k_236_0) := rfl
theorem tb_237 : tab 237 = (2, k_237_0) := rfl
theorem tb_238 : tab 238 = (3, k_238_0) := rfl
theorem tb_239 : tab 239 = (4, k_239_0) := rfl
theorem tb_240 : tab 240 = (2, k_240_0) := rfl
theorem tb_241 : tab 241 = (3, k_241_0) := rfl
theorem tb_242 : tab 242 = (3, k_242_0) := rfl
theorem tb_243 : tab 243 = (3, k_243_0) := rfl
theorem tb_244 : tab 244 = (3, k_244_0) := rfl
theorem tb_245 : tab 245 = (3, k_245_0) := rfl
theorem tb_246 : tab 246 = (5, k_246_0) := rfl
theorem tb_247 : tab 247 = (9, k_247_0) := rfl
theorem tb_248 : tab 248 = (10, k_248_0) := rfl
theorem tb_249 : tab 249 = (10, k_249_0) := rfl
theorem tb_250 : tab 250 = (2, k_250_0) := rfl
theorem tb_251 : tab 251 = (4, k_251_0) := rfl
theorem tb_252 : tab 252 = (3, k_252_0) := rfl
theorem tb_253 : tab 253 = (5, k_253_0) := rfl
theorem tb_254 : tab 254 = (3, k_254_0) := rfl
theorem tb_255 : tab 255 = (4, k_255_0) := rfl
theorem tb_256 : tab 256 = (7, k_256_0) := rfl
theorem tb_257 : tab 257 = (6, k_257_0) := rfl
theorem tb_258 : tab 258 = (8, k_258_0) := rfl
theorem tb_259 : tab 259 = (12, k_259_0) := rfl
