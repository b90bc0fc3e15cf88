/-! what each number of the code names, as the tables have it -/
def fldL : List (Nat × Nat × Nat × Nat × Nat) := [
  (3, 11, 2, 2, 0), (3, 17, 2, 2, 1), (3, 21, 2, 0, 2), (3, 25, 2, 0, 3), (3, 28, 2, 0, 4), (3, 34, 2, 3, 5), (2, 87, 2, 3, 5), (3, 38, 2, 3, 6), (3, 41, 2, 3, 7), (2, 9, 1, 2, 0), (2, 17, 1, 2, 1), (2, 21, 1, 2, 2),
  (2, 25, 1, 2, 3), (2, 31, 1, 2, 4), (2, 35, 1, 0, 5), (1, 40, 1, 0, 5), (2, 41, 1, 0, 6), (4, 11, 3, 2, 0), (5, 133, 3, 2, 0), (1, 58, 3, 2, 0), (4, 17, 3, 2, 1), (1, 73, 3, 2, 1), (5, 314, 3, 2, 1), (4, 21, 3, 2, 2),
  (4, 25, 3, 2, 3), (4, 28, 3, 0, 4), (7, 80, 3, 0, 4), (1, 100, 3, 0, 4), (4, 32, 3, 0, 5), (7, 75, 3, 0, 5), (1, 103, 3, 0, 5), (4, 35, 3, 0, 6), (5, 145, 3, 0, 6), (1, 106, 3, 0, 6), (6, 9, 5, 2, 0), (7, 111, 5, 2, 0),
  (6, 15, 5, 2, 1), (7, 114, 5, 2, 1), (6, 18, 5, 2, 2), (6, 22, 5, 2, 3), (6, 25, 5, 2, 4), (6, 28, 5, 0, 5), (6, 32, 5, 0, 6), (6, 35, 5, 3, 7), (5, 266, 5, 3, 7), (7, 12, 6, 2, 0), (5, 30, 6, 2, 0), (7, 18, 6, 2, 1),
  (7, 22, 6, 2, 2), (7, 26, 6, 2, 3), (7, 29, 6, 2, 4), (7, 32, 6, 2, 5), (7, 35, 6, 2, 6), (7, 38, 6, 2, 7), (7, 41, 6, 0, 8), (5, 130, 6, 0, 8), (1, 144, 6, 0, 8), (8, 9, 7, 2, 0), (8, 15, 7, 2, 1), (8, 19, 7, 2, 2),
  (8, 26, 7, 2, 3), (8, 22, 7, 0, 4), (5, 96, 7, 0, 4), (8, 30, 7, 0, 5), (5, 70, 7, 0, 5), (8, 33, 7, 0, 6), (5, 345, 7, 0, 6), (8, 36, 7, 0, 7), (9, 9, 8, 2, 0), (5, 218, 8, 2, 0), (9, 15, 8, 2, 1), (7, 53, 8, 2, 1),
  (9, 23, 8, 0, 2), (7, 50, 8, 0, 2), (9, 27, 8, 0, 3), (7, 45, 8, 0, 3), (5, 304, 8, 0, 3), (5, 11, 4, 2, 0), (5, 19, 4, 2, 1), (5, 26, 4, 2, 2), (1, 140, 4, 2, 2), (5, 34, 4, 2, 3), (5, 35, 4, 2, 4), (5, 39, 4, 2, 5),
  (5, 42, 4, 2, 6), (5, 45, 4, 2, 7), (5, 49, 4, 2, 8), (5, 109, 4, 2, 9), (5, 113, 4, 3, 10), (1, 120, 4, 3, 10), (5, 59, 4, 0, 11), (5, 117, 4, 0, 12), (5, 120, 4, 0, 13), (5, 123, 4, 0, 14), (5, 89, 4, 0, 15), (5, 99, 4, 0, 16),
  (5, 102, 4, 0, 17), (1, 12, 0, 2, 0), (1, 19, 0, 2, 1), (1, 23, 0, 2, 2), (1, 30, 0, 2, 3), (1, 109, 0, 0, 4), (10, 24, 9, 2, 0), (8, 48, 9, 2, 0), (10, 34, 9, 2, 1), (8, 55, 9, 2, 1), (10, 41, 9, 2, 2), (10, 16, 9, 0, 3),
  (8, 39, 9, 0, 3), (1, 62, 9, 0, 3), (11, 7, 10, 2, 0), (11, 13, 10, 2, 1), (11, 94, 10, 0, 2), (11, 16, 10, 2, 3), (11, 103, 10, 0, 4), (11, 110, 10, 0, 5), (11, 107, 10, 0, 6), (11, 121, 10, 0, 7), (11, 19, 10, 2, 8), (11, 185, 10, 0, 9),
  (11, 188, 10, 3, 10), (11, 205, 10, 3, 11), (11, 196, 10, 3, 12), (11, 22, 10, 2, 13), (11, 232, 10, 1, 14), (11, 236, 10, 1, 15), (11, 229, 10, 3, 16), (11, 25, 10, 2, 17), (11, 28, 10, 2, 18), (11, 247, 10, 0, 19), (11, 272, 10, 0, 20), (11, 275, 10, 0, 21),
  (11, 31, 10, 2, 22), (11, 34, 10, 2, 23), (11, 37, 10, 2, 24), (11, 281, 10, 0, 25), (11, 284, 10, 0, 26), (11, 344, 10, 0, 27), (11, 40, 10, 2, 28), (11, 43, 10, 2, 29), (11, 46, 10, 2, 30), (11, 49, 10, 2, 31), (11, 52, 10, 2, 32), (11, 278, 10, 0, 33),
  (11, 55, 10, 2, 34), (11, 291, 10, 0, 35), (11, 297, 10, 0, 36), (11, 58, 10, 2, 37), (11, 61, 10, 2, 38), (11, 64, 10, 2, 39), (11, 67, 10, 2, 40), (11, 70, 10, 2, 41), (11, 73, 10, 2, 42), (11, 76, 10, 2, 43), (11, 79, 10, 2, 44), (11, 429, 10, 3, 45),
  (11, 405, 10, 0, 46), (11, 408, 10, 0, 47), (11, 411, 10, 0, 48), (11, 318, 10, 0, 49), (11, 374, 10, 0, 50), (11, 82, 10, 2, 51), (11, 85, 10, 2, 52), (11, 88, 10, 2, 53), (11, 91, 10, 2, 54)]
def rofL : List (Nat × Nat × Nat × Nat × Nat) := [
  (2, 124, 40, 2, 1), (15, 9, 41, 2, 0), (15, 15, 41, 0, 1), (3, 44, 40, 3, 4), (3, 47, 40, 3, 5), (13, 7, 40, 0, 0), (8, 66, 40, 0, 2), (8, 70, 40, 3, 3)]
def stfL : List (Nat × Nat × Nat × Nat × Nat) := [
  (2, 121, 0, 2, 0), (15, 38, 0, 0, 1), (15, 1053, 2, 2, 0), (3, 50, 1, 2, 0), (3, 63, 3, 2, 0), (3, 71, 17, 2, 0), (5, 77, 18, 2, 0), (5, 152, 1, 2, 0), (5, 168, 6, 2, 0), (5, 178, 11, 2, 0), (5, 263, 14, 2, 0), (5, 276, 13, 2, 0),
  (5, 331, 25, 2, 0)]
def fldP : List Nat := [203, 204, 205, 206, 207, 208, 209, 210, 211, 231, 232, 233, 234, 235, 236, 237, 238, 262, 263, 264, 265, 266, 267, 268, 269, 270, 271, 272, 273, 274, 275, 276, 277, 278, 318, 319, 320, 321, 322, 323, 324, 325, 326, 327, 328, 346, 347, 348, 349, 350, 351, 352, 353, 354, 355, 356, 357, 382, 383, 384, 385, 386, 387, 388, 389, 390, 391, 392, 415, 416, 417, 418, 419, 420, 421, 422, 423, 433, 434, 435, 436, 437, 438, 439, 440, 441, 442, 443, 444, 445, 446, 447, 448, 449, 450, 451, 452, 490, 491, 492, 493, 494, 738, 739, 740, 741, 742, 743, 744, 745, 1247, 1248, 1249, 1250, 1251, 1252, 1253, 1254, 1255, 1256, 1257, 1258, 1259, 1260, 1261, 1262, 1263, 1264, 1265, 1266, 1267, 1268, 1269, 1270, 1271, 1272, 1273, 1274, 1275, 1276, 1277, 1278, 1279, 1280, 1281, 1282, 1283, 1284, 1285, 1286, 1287, 1288, 1289, 1290, 1291, 1292, 1293, 1294, 1295, 1296, 1297, 1298, 1299, 1300, 1301]
def kyOk (t : Nat) (y : FieldType) : Bool := match t, y with
  | 0, .int => true
  | 1, .long => true
  | 3, .boolean => true
  | 2, .object _ => true
  | 2, .array _ => true
  | _, _ => false
def fldC (x : (Nat × Nat × Nat × Nat × Nat) × Nat) : Bool := match x with
  | ((o, idx, c, t, k), p) => Nat.blt c 11 && Nat.blt k (kN c) && Nat.beq (ktag (kT c k).2.2.1) t && decide ((kT c k).1 = kR c) && kyOk t (kY c k) && (mg p (.fieldLink (onm o) idx (kR c) (kT c k).2.1 (kT c k).2.2.1) || mn p (.fieldLinkNest (onm o) idx (kR c) (kT c k).2.1 (kT c k).2.2.1 "PageInterpreter"))
def fldOk (q : Nat × Nat × Nat × Nat × Nat) : Prop := match q with
  | (o, idx, c, t, k) => c < 11 ∧ k < kN c ∧ ktag (kT c k).2.2.1 = t ∧ (kT c k).1 = kR c ∧ kyOk t (kY c k) = true ∧ (Cond.fieldLink (onm o) idx (kR c) (kT c k).2.1 (kT c k).2.2.1 ∈ gtbl ∨ Cond.fieldLinkNest (onm o) idx (kR c) (kT c k).2.1 (kT c k).2.2.1 "PageInterpreter" ∈ ntbl)
theorem fldL_c : (fldL.zip fldP).all fldC = true := by decide +kernel
theorem fldL_ok : ∀ q ∈ fldL, fldOk q := by
  intro q hq
  obtain ⟨p, h⟩ := zip_all (by decide +kernel) fldL_c q hq
  obtain ⟨o, idx, c, t, k⟩ := q
  simp only [fldC, Bool.and_eq_true, Bool.or_eq_true, decide_eq_true_eq, Nat.blt_eq, Nat.beq_eq] at h
  exact ⟨h.1.1.1.1.1, h.1.1.1.1.2, h.1.1.1.2, h.1.1.2, h.1.2, h.2.imp mg_ok mn_ok⟩
/-- the constants that nobody writes: 40 the operators, 41 their words -/
def rcl : List (String × Nat) := [("PageInterpreter$Operator", 40), ("java/lang/String", 41)]
def RT_40 : List (String × String × String) := [("java/lang/Enum", "ordinal", "I"), ("PageInterpreter$Operator", "word", "Ljava/lang/String;"), ("PageInterpreter$Operator", "operands", "I"), ("PageInterpreter$Operator", "needsNumbers", "Z"), ("PageInterpreter$Operator", "inPath", "Z"), ("PageInterpreter$Operator", "outOfPath", "Z")]
def RT_41 : List (String × String × String) := [("java/lang/String", "value", "[B"), ("java/lang/String", "coder", "B")]
def rT (c k : Nat) : String × String × String := if c = 40 then RT_40.getD k ("", "", "") else RT_41.getD k ("", "", "")
def rN (c : Nat) : Nat := if c = 40 then 6 else 2
def rR (c : Nat) : String := if c = 40 then "PageInterpreter$Operator" else "java/lang/String"
def rtag (c k : Nat) : Nat := if (rT c k).2.2 = "B" then 0 else ktag (rT c k).2.2
def rofOk (q : Nat × Nat × Nat × Nat × Nat) : Bool := (Nat.beq q.2.2.1 40 || Nat.beq q.2.2.1 41) && Nat.blt q.2.2.2.2 (rN q.2.2.1) && Nat.beq (rtag q.2.2.1 q.2.2.2.2) q.2.2.2.1 &&
  (decide (Cond.fieldLink (onm q.1) q.2.1 (rT q.2.2.1 q.2.2.2.2).1 (rT q.2.2.1 q.2.2.2.2).2.1 (rT q.2.2.1 q.2.2.2.2).2.2 ∈ gtbl) || decide (Cond.fieldLinkNest (onm q.1) q.2.1 (rT q.2.2.1 q.2.2.2.2).1 (rT q.2.2.1 q.2.2.2.2).2.1 (rT q.2.2.1 q.2.2.2.2).2.2 "PageInterpreter" ∈ ntbl))
theorem rofL_ok : rofL.all rofOk = true := by decide +kernel
/-- the static references: who declares them -/
def stL : List (String × String × String) := [("PageInterpreter", "OPERATORS", "[LPageInterpreter$Operator;"),
  ("PageInterpreter$1", "$SwitchMap$PageInterpreter$Operator", "[I"),
  ("jdk/internal/util/Preconditions", "SIOOBE_FORMATTER", "Ljava/util/function/BiFunction;"),
  ("PageInterpreter$Operator", "SAVE", "LPageInterpreter$Operator;"),
  ("PageInterpreter$Operator", "RESTORE", "LPageInterpreter$Operator;"),
  ("PageInterpreter$Operator", "CONCAT", "LPageInterpreter$Operator;"),
  ("PageInterpreter$Operator", "MOVE", "LPageInterpreter$Operator;"),
  ("PageInterpreter$Operator", "LINE", "LPageInterpreter$Operator;"),
  ("PageInterpreter$Operator", "CLOSE", "LPageInterpreter$Operator;"),
  ("PageInterpreter$Operator", "RECT", "LPageInterpreter$Operator;"),
  ("PageInterpreter$Operator", "CLIP", "LPageInterpreter$Operator;"),
  ("PageInterpreter$Operator", "XCLIP", "LPageInterpreter$Operator;"),
  ("PageInterpreter$Operator", "FILL", "LPageInterpreter$Operator;"),
  ("PageInterpreter$Operator", "XFILL", "LPageInterpreter$Operator;"),
  ("PageInterpreter$Operator", "DROP", "LPageInterpreter$Operator;"),
  ("PageInterpreter$Operator", "COLOR", "LPageInterpreter$Operator;"),
  ("PageInterpreter$Operator", "DRAW", "LPageInterpreter$Operator;"),
  ("PageInterpreter$Operator", "REPEAT", "LPageInterpreter$Operator;"),
  ("PageInterpreter$Operator", "NEXT", "LPageInterpreter$Operator;"),
  ("PageInterpreter$Operator", "DUP", "LPageInterpreter$Operator;"),
  ("PageInterpreter$Operator", "POP", "LPageInterpreter$Operator;"),
  ("PageInterpreter$Operator", "EXCH", "LPageInterpreter$Operator;"),
  ("PageInterpreter$Operator", "ADD", "LPageInterpreter$Operator;"),
  ("PageInterpreter$Operator", "SUB", "LPageInterpreter$Operator;"),
  ("PageInterpreter$Operator", "MUL", "LPageInterpreter$Operator;"),
  ("PageInterpreter$Operator", "DIV", "LPageInterpreter$Operator;")]
def stN (a : Nat) : String × String × String := stL.getD a ("", "", "")
def stiN : String × String × String := ("java/lang/String", "COMPACT_STRINGS", "Z")
def stOk (q : Nat × Nat × Nat × Nat × Nat) : Bool := match q.2.2.2.1 with
  | 2 => Nat.blt q.2.2.1 26 && (decide (Cond.fieldLink (onm q.1) q.2.1 (stN q.2.2.1).1 (stN q.2.2.1).2.1 (stN q.2.2.1).2.2 ∈ gtbl) || decide (Cond.fieldLinkNest (onm q.1) q.2.1 (stN q.2.2.1).1 (stN q.2.2.1).2.1 (stN q.2.2.1).2.2 "PageInterpreter" ∈ ntbl))
  | 0 => Nat.beq q.2.2.2.2 1 && decide (Cond.fieldLink (onm q.1) q.2.1 stiN.1 stiN.2.1 stiN.2.2 ∈ gtbl)
  | _ => false
theorem stfL_ok : stfL.all stOk = true := by decide +kernel
def cniL : List (Nat × Nat × Int) := [(1, 34, (-10000001)), (1, 39, (-10000003)), (1, 65, (-10000009)), (1, 81, (-10000002)), (5, 58, 1000000), (5, 344, (-10000009)), (7, 97, (-10000009)), (11, 102, (-10000001)), (11, 106, (-10000003)), (11, 221, (-10000009)), (11, 225, (-10000002))]
theorem cniL_ok : cniL.all (fun q => decide (Cond.constant (onm q.1) q.2.1 (Int32.ofInt q.2.2) ∈ gtbl) && decide (-2147483648 ≤ q.2.2 ∧ q.2.2 < 2147483648)) = true := by decide +kernel
def cnlL : List (Nat × Nat × Int) := [(2, 107, (-1)), (12, 16, (-1)), (12, 18, 1000000), (12, 20, (-1000000)), (9, 21, 4294967297), (8, 64, (-1)), (12, 30, 2), (12, 37, (-16000)), (12, 39, 16000), (1, 173, (-10000001)), (7, 124, (-10000009)), (11, 139, 1935767141), (11, 141, 32199693894120037), (11, 143, 109330244526452), (11, 145, 1836021349), (11, 147, 1818848869), (11, 149, 427021005669), (11, 151, 1919247220), (11, 153, 1668049264), (11, 155, 517064124784), (11, 157, 1718185068), (11, 159, 517114260588), (11, 161, 1685221232), (11, 163, 427071139698), (11, 165, 1685217655), (11, 167, 125780002955636), (11, 169, 1852143732), (11, 171, 6583664), (11, 173, 7368560), (11, 175, 1702388584), (11, 177, 6382692), (11, 179, 7566690), (11, 181, 7173484), (11, 183, 6580598), (11, 239, 1000000), (11, 241, (-1000000)), (11, 254, 32), (11, 256, 2), (11, 261, 16000), (11, 263, (-16000))]
theorem cnlL_ok : cnlL.all (fun q => decide (Cond.constantLong (onm q.1) q.2.1 (Int64.ofInt q.2.2) ∈ gtbl) && decide (-9223372036854775808 ≤ q.2.2 ∧ q.2.2 < 9223372036854775808)) = true := by decide +kernel
def newL : List (Nat × Nat × Nat × Nat) := [(0, 7, 0, 5), (0, 10, 10, 55), (1, 9, 1, 7), (1, 16, 3, 7), (1, 27, 4, 18), (2, 28, 2, 8), (2, 39, 9, 4), (5, 9, 7, 8), (5, 17, 8, 4), (5, 23, 6, 9), (7, 9, 5, 8)]
theorem newL_ok : newL.all (fun q => Nat.blt q.2.2.1 11 && Nat.beq (kN q.2.2.1) q.2.2.2 && decide (Cond.classLink (onm q.1) q.2.1 (kR q.2.2.1) ∈ gtbl) && decide (Cond.instantiable (kR q.2.2.1) q.2.2.2 ∈ gtbl) && decide (Cond.initialized (kR q.2.2.1) ∈ gtbl)) = true := by decide +kernel
/-- kinds of rows -/
def tyA : List (Nat × FieldType) := [(100, .int), (101, .long), (102, .boolean), (113, .object "PageInterpreter$State"), (117, .object "PageInterpreter$Frame"), (118, .object "PageInterpreter$Graphics"), (119, .object "PageInterpreter$Program"), (150, .object "PageInterpreter$Operator")]
def elR (k : Nat) : String := if k = 150 then "PageInterpreter$Operator" else kR (k - 110)
def anwL : List (Nat × Nat × Nat × Nat) := [(1, 16, 113, 0), (2, 15, 150, 0), (3, 9, 150, 0), (4, 9, 119, 0), (5, 9, 117, 0), (5, 17, 118, 0), (10, 22, 150, 0)]
theorem anwL_ok : anwL.all (fun q => tyA.any (fun x => Nat.beq x.1 q.2.2.1 && decide (x.2 = FieldType.object (elR q.2.2.1))) && Nat.ble 110 q.2.2.1 && Nat.blt q.2.2.1 250 && decide (Cond.classLink (onm q.1) q.2.1 (elR q.2.2.1) ∈ gtbl) && decide (Cond.arrayOver (.object (elR q.2.2.1)) ∈ ntbl)) = true := by decide +kernel
theorem arcL_ok : decide (Cond.arrayClass .int ∈ gtbl) && decide (Cond.arrayClass .long ∈ gtbl) && decide (Cond.arrayClass .boolean ∈ gtbl) = true := by decide +kernel
