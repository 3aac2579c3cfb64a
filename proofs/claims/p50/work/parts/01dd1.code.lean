/- 293: PepperTablesModel.wouldWith(II)I -/
def ee_B293 : List (Nat × List ee_en) := [(16, [(0, .aload_n 0, 1, 3, 0, 0, 0, 0, 0, 0), (1, .getfield 88, 3, 14, 163, 0, 0, 9, 42, 3), (4, .iconst 0, 1, 0, 0, 0, 0, 0, 0, 0), (5, .iaload, 1, 22, 0, 0, 0, 0, 0, 0), (6, .istore_n 3, 1, 4, 0, 0, 0, 0, 0, 0), (7, .aload_n 0, 1, 3, 0, 0, 0, 0, 0, 0), (8, .getfield 88, 3, 14, 163, 0, 0, 9, 42, 3), (11, .iconst 0, 1, 0, 0, 0, 0, 0, 0, 0), (12, .iload_n 1, 1, 2, 0, 0, 0, 0, 0, 0), (13, .iastore, 1, 17, 0, 0, 0, 0, 0, 0), (14, .aload_n 0, 1, 3, 0, 0, 0, 0, 0, 0), (15, .iload_n 2, 1, 2, 0, 0, 0, 0, 0, 0)]), (31, [(16, .invokevirtual 407, 3, 23, 265, 0, 0, 292, 0, 1), (19, .istore 4, 2, 4, 0, 0, 0, 0, 0, 0), (21, .aload_n 0, 1, 3, 0, 0, 0, 0, 0, 0), (22, .getfield 88, 3, 14, 163, 0, 0, 9, 42, 3), (25, .iconst 0, 1, 0, 0, 0, 0, 0, 0, 0), (26, .iload_n 3, 1, 2, 0, 0, 0, 0, 0, 0), (27, .iastore, 1, 17, 0, 0, 0, 0, 0, 0), (28, .iload 4, 2, 2, 0, 0, 0, 0, 0, 0), (30, .ireturn, 1, 21, 0, 0, 0, 0, 0, 0)])]
def ee_me293 : ee_me := (9, ⟨"PepperTablesModel", "wouldWith", "(II)I"⟩, prog_11_method_95_code, 5, (some .int), ee_B293, 0, 0)
set_option maxRecDepth 100000 in
theorem ee_me293ok : ee_Mb ee_me293 = true := by decide +kernel
/- 294: java/lang/Character.highSurrogate(I)C -/
def ee_B294 : List (Nat × List ee_en) := [(9, [(0, .iload_n 0, 1, 2, 0, 0, 0, 0, 0, 0), (1, .bipush 10, 2, 0, 0, 0, 0, 0, 0, 0), (3, .iushr, 1, 7, 0, 0, 0, 0, 0, 0), (4, .ldc 110, 2, 1, 2, 0, 55232, 0, 0, 0), (6, .iadd, 1, 7, 0, 0, 0, 0, 0, 0), (7, .i2c, 1, 10, 0, 0, 0, 0, 0, 0), (8, .ireturn, 1, 21, 0, 0, 0, 0, 0, 0)])]
def ee_me294 : ee_me := (11, ⟨"java/lang/Character", "highSurrogate", "(I)C"⟩, prog_12_method_28_code, 1, (some .char), ee_B294, 0, 0)
set_option maxRecDepth 100000 in
theorem ee_me294ok : ee_Mb ee_me294 = true := by decide +kernel
/- 295: java/lang/Character.isValidCodePoint(I)Z -/
def ee_B295 : List (Nat × List ee_en) := [(17, [(0, .iload_n 0, 1, 2, 0, 0, 0, 0, 0, 0), (1, .bipush 16, 2, 0, 0, 0, 0, 0, 0, 0), (3, .iushr, 1, 7, 0, 0, 0, 0, 0, 0), (4, .istore_n 1, 1, 4, 0, 0, 0, 0, 0, 0), (5, .iload_n 1, 1, 2, 0, 0, 0, 0, 0, 0), (6, .bipush 17, 2, 0, 0, 0, 0, 0, 0, 0), (8, .if_icmp .ge 7, 3, 12, 0, 0, 0, 0, 0, 0), (11, .iconst 1, 1, 0, 0, 0, 0, 0, 0, 0), (12, .goto 4, 3, 0, 0, 0, 0, 0, 0, 0), (15, .iconst 0, 1, 0, 0, 0, 0, 0, 0, 0), (16, .ireturn, 1, 21, 0, 0, 0, 0, 0, 0)])]
def ee_me295 : ee_me := (11, ⟨"java/lang/Character", "isValidCodePoint", "(I)Z"⟩, prog_12_method_11_code, 2, (some .boolean), ee_B295, 0, 0)
set_option maxRecDepth 100000 in
theorem ee_me295ok : ee_Mb ee_me295 = true := by decide +kernel
/- 296: java/lang/Character.lowSurrogate(I)C -/
def ee_B296 : List (Nat × List ee_en) := [(10, [(0, .iload_n 0, 1, 2, 0, 0, 0, 0, 0, 0), (1, .sipush 1023, 3, 0, 0, 0, 0, 0, 0, 0), (4, .iand, 1, 7, 0, 0, 0, 0, 0, 0), (5, .ldc 76, 2, 1, 3, 0, 56320, 0, 0, 0), (7, .iadd, 1, 7, 0, 0, 0, 0, 0, 0), (8, .i2c, 1, 10, 0, 0, 0, 0, 0, 0), (9, .ireturn, 1, 21, 0, 0, 0, 0, 0, 0)])]
def ee_me296 : ee_me := (11, ⟨"java/lang/Character", "lowSurrogate", "(I)C"⟩, prog_12_method_29_code, 1, (some .char), ee_B296, 0, 0)
set_option maxRecDepth 100000 in
theorem ee_me296ok : ee_Mb ee_me296 = true := by decide +kernel
/- 297: java/lang/Integer.bitCount(I)I -/
def ee_B297 : List (Nat × List ee_en) := [(16, [(0, .iload_n 0, 1, 2, 0, 0, 0, 0, 0, 0), (1, .iload_n 0, 1, 2, 0, 0, 0, 0, 0, 0), (2, .iconst 1, 1, 0, 0, 0, 0, 0, 0, 0), (3, .iushr, 1, 7, 0, 0, 0, 0, 0, 0), (4, .ldc_w 265, 3, 1, 4, 0, 1431655765, 0, 0, 0), (7, .iand, 1, 7, 0, 0, 0, 0, 0, 0), (8, .isub, 1, 7, 0, 0, 0, 0, 0, 0), (9, .istore_n 0, 1, 4, 0, 0, 0, 0, 0, 0), (10, .iload_n 0, 1, 2, 0, 0, 0, 0, 0, 0), (11, .ldc_w 266, 3, 1, 5, 0, 858993459, 0, 0, 0), (14, .iand, 1, 7, 0, 0, 0, 0, 0, 0), (15, .iload_n 0, 1, 2, 0, 0, 0, 0, 0, 0)]), (32, [(16, .iconst 2, 1, 0, 0, 0, 0, 0, 0, 0), (17, .iushr, 1, 7, 0, 0, 0, 0, 0, 0), (18, .ldc_w 266, 3, 1, 5, 0, 858993459, 0, 0, 0), (21, .iand, 1, 7, 0, 0, 0, 0, 0, 0), (22, .iadd, 1, 7, 0, 0, 0, 0, 0, 0), (23, .istore_n 0, 1, 4, 0, 0, 0, 0, 0, 0), (24, .iload_n 0, 1, 2, 0, 0, 0, 0, 0, 0), (25, .iload_n 0, 1, 2, 0, 0, 0, 0, 0, 0), (26, .iconst 4, 1, 0, 0, 0, 0, 0, 0, 0), (27, .iushr, 1, 7, 0, 0, 0, 0, 0, 0), (28, .iadd, 1, 7, 0, 0, 0, 0, 0, 0), (29, .ldc_w 267, 3, 1, 6, 0, 252645135, 0, 0, 0)]), (46, [(32, .iand, 1, 7, 0, 0, 0, 0, 0, 0), (33, .istore_n 0, 1, 4, 0, 0, 0, 0, 0, 0), (34, .iload_n 0, 1, 2, 0, 0, 0, 0, 0, 0), (35, .iload_n 0, 1, 2, 0, 0, 0, 0, 0, 0), (36, .bipush 8, 2, 0, 0, 0, 0, 0, 0, 0), (38, .iushr, 1, 7, 0, 0, 0, 0, 0, 0), (39, .iadd, 1, 7, 0, 0, 0, 0, 0, 0), (40, .istore_n 0, 1, 4, 0, 0, 0, 0, 0, 0), (41, .iload_n 0, 1, 2, 0, 0, 0, 0, 0, 0), (42, .iload_n 0, 1, 2, 0, 0, 0, 0, 0, 0), (43, .bipush 16, 2, 0, 0, 0, 0, 0, 0, 0), (45, .iushr, 1, 7, 0, 0, 0, 0, 0, 0)]), (53, [(46, .iadd, 1, 7, 0, 0, 0, 0, 0, 0), (47, .istore_n 0, 1, 4, 0, 0, 0, 0, 0, 0), (48, .iload_n 0, 1, 2, 0, 0, 0, 0, 0, 0), (49, .bipush 63, 2, 0, 0, 0, 0, 0, 0, 0), (51, .iand, 1, 7, 0, 0, 0, 0, 0, 0), (52, .ireturn, 1, 21, 0, 0, 0, 0, 0, 0)])]
def ee_me297 : ee_me := (12, ⟨"java/lang/Integer", "bitCount", "(I)I"⟩, prog_13_method_49_code, 1, (some .int), ee_B297, 0, 0)
set_option maxRecDepth 100000 in
theorem ee_me297ok : ee_Mb ee_me297 = true := by decide +kernel
/- 298: java/lang/Math.max(II)I -/
def ee_B298 : List (Nat × List ee_en) := [(11, [(0, .iload_n 0, 1, 2, 0, 0, 0, 0, 0, 0), (1, .iload_n 1, 1, 2, 0, 0, 0, 0, 0, 0), (2, .if_icmp .lt 7, 3, 12, 0, 0, 0, 0, 0, 0), (5, .iload_n 0, 1, 2, 0, 0, 0, 0, 0, 0), (6, .goto 4, 3, 0, 0, 0, 0, 0, 0, 0), (9, .iload_n 1, 1, 2, 0, 0, 0, 0, 0, 0), (10, .ireturn, 1, 21, 0, 0, 0, 0, 0, 0)])]
def ee_me298 : ee_me := (13, ⟨"java/lang/Math", "max", "(II)I"⟩, prog_14_method_65_code, 2, (some .int), ee_B298, 0, 0)
set_option maxRecDepth 100000 in
theorem ee_me298ok : ee_Mb ee_me298 = true := by decide +kernel
/- 299: java/lang/Math.min(II)I -/
def ee_B299 : List (Nat × List ee_en) := [(11, [(0, .iload_n 0, 1, 2, 0, 0, 0, 0, 0, 0), (1, .iload_n 1, 1, 2, 0, 0, 0, 0, 0, 0), (2, .if_icmp .gt 7, 3, 12, 0, 0, 0, 0, 0, 0), (5, .iload_n 0, 1, 2, 0, 0, 0, 0, 0, 0), (6, .goto 4, 3, 0, 0, 0, 0, 0, 0, 0), (9, .iload_n 1, 1, 2, 0, 0, 0, 0, 0, 0), (10, .ireturn, 1, 21, 0, 0, 0, 0, 0, 0)])]
def ee_me299 : ee_me := (13, ⟨"java/lang/Math", "min", "(II)I"⟩, prog_14_method_69_code, 2, (some .int), ee_B299, 0, 0)
set_option maxRecDepth 100000 in
theorem ee_me299ok : ee_Mb ee_me299 = true := by decide +kernel
/- 300: java/lang/String.charAt(I)C -/
def ee_B300 : List (Nat × List ee_en) := [(24, [(0, .aload_n 0, 1, 3, 0, 0, 0, 0, 0, 0), (1, .invokevirtual 492, 3, 23, 316, 0, 0, 306, 0, 0), (4, .ifCond .eq 12, 3, 12, 0, 0, 0, 0, 0, 0), (7, .aload_n 0, 1, 3, 0, 0, 0, 0, 0, 0), (8, .getfield 9, 3, 14, 0, 1, 0, 1, 0, 0), (11, .iload_n 1, 1, 2, 0, 0, 0, 0, 0, 0), (12, .invokestatic 495, 3, 23, 317, 0, 0, 309, 1, 2), (15, .ireturn, 1, 21, 0, 0, 0, 0, 0, 0), (16, .aload_n 0, 1, 3, 0, 0, 0, 0, 0, 0), (17, .getfield 9, 3, 14, 0, 1, 0, 1, 0, 0), (20, .iload_n 1, 1, 2, 0, 0, 0, 0, 0, 0), (21, .invokestatic 498, 3, 20, 0, 9, 0, 0, 0, 0)]), (25, [(24, .ireturn, 1, 21, 0, 0, 0, 0, 0, 0)])]
def ee_me300 : ee_me := (14, ⟨"java/lang/String", "charAt", "(I)C"⟩, prog_15_method_56_code, 2, (some .char), ee_B300, 0, 0)
set_option maxRecDepth 100000 in
theorem ee_me300ok : ee_Mb ee_me300 = true := by decide +kernel
/- 301: java/lang/String.checkBoundsBeginEnd(III)V -/
def ee_B301 : List (Nat × List ee_en) := [(11, [(0, .iload_n 0, 1, 2, 0, 0, 0, 0, 0, 0), (1, .iload_n 1, 1, 2, 0, 0, 0, 0, 0, 0), (2, .iload_n 2, 1, 2, 0, 0, 0, 0, 0, 0), (3, .getstatic 1053, 3, 19, 0, 0, 0, 1, 0, 0), (6, .invokestatic 1062, 3, 23, 318, 0, 0, 312, 1, 4), (9, .pop, 1, 11, 0, 0, 0, 0, 0, 0), (10, .return_, 1, 21, 0, 0, 0, 0, 0, 0)])]
def ee_me301 : ee_me := (14, ⟨"java/lang/String", "checkBoundsBeginEnd", "(III)V"⟩, prog_15_method_158_code, 3, none, ee_B301, 0, 0)
set_option maxRecDepth 100000 in
theorem ee_me301ok : ee_Mb ee_me301 = true := by decide +kernel
/- 302: java/lang/String.checkIndex(II)V -/
def ee_B302 : List (Nat × List ee_en) := [(10, [(0, .iload_n 0, 1, 2, 0, 0, 0, 0, 0, 0), (1, .iload_n 1, 1, 2, 0, 0, 0, 0, 0, 0), (2, .getstatic 1053, 3, 19, 0, 0, 0, 1, 0, 0), (5, .invokestatic 1059, 3, 23, 319, 0, 0, 313, 1, 3), (8, .pop, 1, 11, 0, 0, 0, 0, 0, 0), (9, .return_, 1, 21, 0, 0, 0, 0, 0, 0)])]
def ee_me302 : ee_me := (14, ⟨"java/lang/String", "checkIndex", "(II)V"⟩, prog_15_method_155_code, 2, none, ee_B302, 0, 0)
set_option maxRecDepth 100000 in
theorem ee_me302ok : ee_Mb ee_me302 = true := by decide +kernel
/- 303: java/lang/String.coder()B -/
def ee_B303 : List (Nat × List ee_en) := [(15, [(0, .getstatic 38, 3, 19, 1, 0, 0, 0, 0, 0), (3, .ifCond .eq 10, 3, 12, 0, 0, 0, 0, 0, 0), (6, .aload_n 0, 1, 3, 0, 0, 0, 0, 0, 0), (7, .getfield 15, 3, 14, 1, 1, 0, 0, 0, 0), (10, .goto 4, 3, 0, 0, 0, 0, 0, 0, 0), (13, .iconst 1, 1, 0, 0, 0, 0, 0, 0, 0), (14, .ireturn, 1, 21, 0, 0, 0, 0, 0, 0)])]
def ee_me303 : ee_me := (14, ⟨"java/lang/String", "coder", "()B"⟩, prog_15_method_152_code, 1, (some .byte), ee_B303, 0, 0)
set_option maxRecDepth 100000 in
theorem ee_me303ok : ee_Mb ee_me303 = true := by decide +kernel
/- 304: java/lang/String.indexOf(I)I -/
def ee_B304 : List (Nat × List ee_en) := [(7, [(0, .aload_n 0, 1, 3, 0, 0, 0, 0, 0, 0), (1, .iload_n 1, 1, 2, 0, 0, 0, 0, 0, 0), (2, .iconst 0, 1, 0, 0, 0, 0, 0, 0, 0), (3, .invokevirtual 633, 3, 23, 320, 0, 0, 305, 0, 2), (6, .ireturn, 1, 21, 0, 0, 0, 0, 0, 0)])]
def ee_me304 : ee_me := (14, ⟨"java/lang/String", "indexOf", "(I)I"⟩, prog_15_method_79_code, 2, (some .int), ee_B304, 0, 0)
set_option maxRecDepth 100000 in
theorem ee_me304ok : ee_Mb ee_me304 = true := by decide +kernel
/- 305: java/lang/String.indexOf(II)I -/
def ee_B305 : List (Nat × List ee_en) := [(24, [(0, .aload_n 0, 1, 3, 0, 0, 0, 0, 0, 0), (1, .invokevirtual 492, 3, 23, 316, 0, 0, 306, 0, 0), (4, .ifCond .eq 19, 3, 12, 0, 0, 0, 0, 0, 0), (7, .aload_n 0, 1, 3, 0, 0, 0, 0, 0, 0), (8, .getfield 9, 3, 14, 0, 1, 0, 1, 0, 0), (11, .iload_n 1, 1, 2, 0, 0, 0, 0, 0, 0), (12, .iload_n 2, 1, 2, 0, 0, 0, 0, 0, 0), (13, .aload_n 0, 1, 3, 0, 0, 0, 0, 0, 0), (14, .invokevirtual 505, 3, 23, 321, 0, 0, 307, 0, 0), (17, .invokestatic 637, 3, 23, 322, 0, 0, 310, 1, 4), (20, .goto 16, 3, 0, 0, 0, 0, 0, 0, 0), (23, .aload_n 0, 1, 3, 0, 0, 0, 0, 0, 0)]), (37, [(24, .getfield 9, 3, 14, 0, 1, 0, 1, 0, 0), (27, .iload_n 1, 1, 2, 0, 0, 0, 0, 0, 0), (28, .iload_n 2, 1, 2, 0, 0, 0, 0, 0, 0), (29, .aload_n 0, 1, 3, 0, 0, 0, 0, 0, 0), (30, .invokevirtual 505, 3, 23, 321, 0, 0, 307, 0, 0), (33, .invokestatic 640, 3, 20, 0, 9, 0, 0, 0, 0), (36, .ireturn, 1, 21, 0, 0, 0, 0, 0, 0)])]
def ee_me305 : ee_me := (14, ⟨"java/lang/String", "indexOf", "(II)I"⟩, prog_15_method_80_code, 3, (some .int), ee_B305, 0, 0)
set_option maxRecDepth 100000 in
theorem ee_me305ok : ee_Mb ee_me305 = true := by decide +kernel
/- 306: java/lang/String.isLatin1()Z -/
def ee_B306 : List (Nat × List ee_en) := [(19, [(0, .getstatic 38, 3, 19, 1, 0, 0, 0, 0, 0), (3, .ifCond .eq 14, 3, 12, 0, 0, 0, 0, 0, 0), (6, .aload_n 0, 1, 3, 0, 0, 0, 0, 0, 0), (7, .getfield 15, 3, 14, 1, 1, 0, 0, 0, 0), (10, .ifCond .ne 7, 3, 12, 0, 0, 0, 0, 0, 0), (13, .iconst 1, 1, 0, 0, 0, 0, 0, 0, 0), (14, .goto 4, 3, 0, 0, 0, 0, 0, 0, 0), (17, .iconst 0, 1, 0, 0, 0, 0, 0, 0, 0), (18, .ireturn, 1, 21, 0, 0, 0, 0, 0, 0)])]
def ee_me306 : ee_me := (14, ⟨"java/lang/String", "isLatin1", "()Z"⟩, prog_15_method_154_code, 1, (some .boolean), ee_B306, 0, 0)
set_option maxRecDepth 100000 in
theorem ee_me306ok : ee_Mb ee_me306 = true := by decide +kernel
/- 307: java/lang/String.length()I -/
def ee_B307 : List (Nat × List ee_en) := [(11, [(0, .aload_n 0, 1, 3, 0, 0, 0, 0, 0, 0), (1, .getfield 9, 3, 14, 0, 1, 0, 1, 0, 0), (4, .arraylength, 1, 16, 0, 0, 0, 0, 0, 0), (5, .aload_n 0, 1, 3, 0, 0, 0, 0, 0, 0), (6, .invokevirtual 335, 3, 23, 323, 0, 0, 303, 0, 0), (9, .ishr, 1, 7, 0, 0, 0, 0, 0, 0), (10, .ireturn, 1, 21, 0, 0, 0, 0, 0, 0)])]
def ee_me307 : ee_me := (14, ⟨"java/lang/String", "length", "()I"⟩, prog_15_method_54_code, 1, (some .int), ee_B307, 0, 0)
set_option maxRecDepth 100000 in
theorem ee_me307ok : ee_Mb ee_me307 = true := by decide +kernel
/- 308: java/lang/StringLatin1.canEncode(I)Z -/
def ee_B308 : List (Nat × List ee_en) := [(17, [(0, .iload_n 0, 1, 2, 0, 0, 0, 0, 0, 0), (1, .ifCond .lt 14, 3, 12, 0, 0, 0, 0, 0, 0), (4, .iload_n 0, 1, 2, 0, 0, 0, 0, 0, 0), (5, .sipush 255, 3, 0, 0, 0, 0, 0, 0, 0), (8, .if_icmp .gt 7, 3, 12, 0, 0, 0, 0, 0, 0), (11, .iconst 1, 1, 0, 0, 0, 0, 0, 0, 0), (12, .goto 4, 3, 0, 0, 0, 0, 0, 0, 0), (15, .iconst 0, 1, 0, 0, 0, 0, 0, 0, 0), (16, .ireturn, 1, 21, 0, 0, 0, 0, 0, 0)])]
def ee_me308 : ee_me := (15, ⟨"java/lang/StringLatin1", "canEncode", "(I)Z"⟩, prog_16_method_4_code, 1, (some .boolean), ee_B308, 0, 0)
set_option maxRecDepth 100000 in
theorem ee_me308ok : ee_Mb ee_me308 = true := by decide +kernel
/- 309: java/lang/StringLatin1.charAt([BI)C -/
def ee_B309 : List (Nat × List ee_en) := [(15, [(0, .iload_n 1, 1, 2, 0, 0, 0, 0, 0, 0), (1, .aload_n 0, 1, 3, 0, 0, 0, 0, 0, 0), (2, .arraylength, 1, 16, 0, 0, 0, 0, 0, 0), (3, .invokestatic 9, 3, 23, 324, 0, 0, 302, 1, 2), (6, .aload_n 0, 1, 3, 0, 0, 0, 0, 0, 0), (7, .iload_n 1, 1, 2, 0, 0, 0, 0, 0, 0), (8, .baload, 1, 22, 0, 0, 0, 0, 0, 0), (9, .sipush 255, 3, 0, 0, 0, 0, 0, 0, 0), (12, .iand, 1, 7, 0, 0, 0, 0, 0, 0), (13, .i2c, 1, 10, 0, 0, 0, 0, 0, 0), (14, .ireturn, 1, 21, 0, 0, 0, 0, 0, 0)])]
def ee_me309 : ee_me := (15, ⟨"java/lang/StringLatin1", "charAt", "([BI)C"⟩, prog_16_method_2_code, 2, (some .char), ee_B309, 0, 0)
set_option maxRecDepth 100000 in
theorem ee_me309ok : ee_Mb ee_me309 = true := by decide +kernel
/- 310: java/lang/StringLatin1.indexOf([BIII)I -/
def ee_B310 : List (Nat × List ee_en) := [(18, [(0, .iload_n 1, 1, 2, 0, 0, 0, 0, 0, 0), (1, .invokestatic 88, 3, 23, 325, 0, 0, 308, 1, 1), (4, .ifCond .ne 5, 3, 12, 0, 0, 0, 0, 0, 0), (7, .iconst (-1), 1, 0, 0, 0, 0, 0, 0, 0), (8, .ireturn, 1, 21, 0, 0, 0, 0, 0, 0), (9, .iload_n 2, 1, 2, 0, 0, 0, 0, 0, 0), (10, .iconst 0, 1, 0, 0, 0, 0, 0, 0, 0), (11, .invokestatic 92, 3, 24, 3, 4, 0, 0, 0, 0), (14, .istore_n 2, 1, 4, 0, 0, 0, 0, 0, 0), (15, .iload_n 3, 1, 2, 0, 0, 0, 0, 0, 0), (16, .aload_n 0, 1, 3, 0, 0, 0, 0, 0, 0), (17, .arraylength, 1, 16, 0, 0, 0, 0, 0, 0)]), (36, [(18, .invokestatic 38, 3, 24, 4, 3, 0, 0, 0, 0), (21, .istore_n 3, 1, 4, 0, 0, 0, 0, 0, 0), (22, .iload_n 2, 1, 2, 0, 0, 0, 0, 0, 0), (23, .iload_n 3, 1, 2, 0, 0, 0, 0, 0, 0), (24, .if_icmp .lt 5, 3, 12, 0, 0, 0, 0, 0, 0), (27, .iconst (-1), 1, 0, 0, 0, 0, 0, 0, 0), (28, .ireturn, 1, 21, 0, 0, 0, 0, 0, 0), (29, .aload_n 0, 1, 3, 0, 0, 0, 0, 0, 0), (30, .iload_n 1, 1, 2, 0, 0, 0, 0, 0, 0), (31, .iload_n 2, 1, 2, 0, 0, 0, 0, 0, 0), (32, .iload_n 3, 1, 2, 0, 0, 0, 0, 0, 0), (33, .invokestatic 95, 3, 23, 326, 0, 0, 311, 1, 4)]), (37, [(36, .ireturn, 1, 21, 0, 0, 0, 0, 0, 0)])]
def ee_me310 : ee_me := (15, ⟨"java/lang/StringLatin1", "indexOf", "([BIII)I"⟩, prog_16_method_22_code, 4, (some .int), ee_B310, 0, 0)
set_option maxRecDepth 100000 in
theorem ee_me310ok : ee_Mb ee_me310 = true := by decide +kernel
/- 311: java/lang/StringLatin1.indexOfChar([BIII)I -/
def ee_B311 : List (Nat × List ee_en) := [(19, [(0, .iload_n 1, 1, 2, 0, 0, 0, 0, 0, 0), (1, .i2b, 1, 10, 0, 0, 0, 0, 0, 0), (2, .istore 4, 2, 4, 0, 0, 0, 0, 0, 0), (4, .iload_n 2, 1, 2, 0, 0, 0, 0, 0, 0), (5, .istore 5, 2, 4, 0, 0, 0, 0, 0, 0), (7, .iload 5, 2, 2, 0, 0, 0, 0, 0, 0), (9, .iload_n 3, 1, 2, 0, 0, 0, 0, 0, 0), (10, .if_icmp .ge 21, 3, 12, 0, 0, 0, 0, 0, 0), (13, .aload_n 0, 1, 3, 0, 0, 0, 0, 0, 0), (14, .iload 5, 2, 2, 0, 0, 0, 0, 0, 0), (16, .baload, 1, 22, 0, 0, 0, 0, 0, 0), (17, .iload 4, 2, 2, 0, 0, 0, 0, 0, 0)]), (33, [(19, .if_icmp .ne 6, 3, 12, 0, 0, 0, 0, 0, 0), (22, .iload 5, 2, 2, 0, 0, 0, 0, 0, 0), (24, .ireturn, 1, 21, 0, 0, 0, 0, 0, 0), (25, .iinc 5 1, 3, 6, 0, 0, 0, 0, 0, 0), (28, .goto (-21), 3, 0, 0, 0, 0, 0, 0, 0), (31, .iconst (-1), 1, 0, 0, 0, 0, 0, 0, 0), (32, .ireturn, 1, 21, 0, 0, 0, 0, 0, 0)])]
def ee_me311 : ee_me := (15, ⟨"java/lang/StringLatin1", "indexOfChar", "([BIII)I"⟩, prog_16_method_23_code, 6, (some .int), ee_B311, 0, 0)
set_option maxRecDepth 100000 in
theorem ee_me311ok : ee_Mb ee_me311 = true := by decide +kernel
/- 312: jdk/internal/util/Preconditions.checkFromToIndex(IIILjava/util/function/BiFunction;)I -/
def ee_B312 : List (Nat × List ee_en) := [(18, [(0, .iload_n 0, 1, 2, 0, 0, 0, 0, 0, 0), (1, .ifCond .lt 13, 3, 12, 0, 0, 0, 0, 0, 0), (4, .iload_n 0, 1, 2, 0, 0, 0, 0, 0, 0), (5, .iload_n 1, 1, 2, 0, 0, 0, 0, 0, 0), (6, .if_icmp .gt 8, 3, 12, 0, 0, 0, 0, 0, 0), (9, .iload_n 1, 1, 2, 0, 0, 0, 0, 0, 0), (10, .iload_n 2, 1, 2, 0, 0, 0, 0, 0, 0), (11, .if_icmp .le 11, 3, 12, 0, 0, 0, 0, 0, 0), (14, .aload_n 3, 1, 3, 0, 0, 0, 0, 0, 0), (15, .iload_n 0, 1, 2, 0, 0, 0, 0, 0, 0), (16, .iload_n 1, 1, 2, 0, 0, 0, 0, 0, 0), (17, .iload_n 2, 1, 2, 0, 0, 0, 0, 0, 0)]), (24, [(18, .invokestatic 99, 3, 20, 0, 9, 0, 0, 0, 0), (21, .athrow, 1, 25, 0, 0, 0, 0, 0, 0), (22, .iload_n 0, 1, 2, 0, 0, 0, 0, 0, 0), (23, .ireturn, 1, 21, 0, 0, 0, 0, 0, 0)])]
def ee_me312 : ee_me := (16, ⟨"jdk/internal/util/Preconditions", "checkFromToIndex", "(IIILjava/util/function/BiFunction;)I"⟩, prog_19_method_12_code, 4, (some .int), ee_B312, 0, 0)
set_option maxRecDepth 100000 in
theorem ee_me312ok : ee_Mb ee_me312 = true := by decide +kernel
/- 313: jdk/internal/util/Preconditions.checkIndex(IILjava/util/function/BiFunction;)I -/
def ee_B313 : List (Nat × List ee_en) := [(18, [(0, .iload_n 0, 1, 2, 0, 0, 0, 0, 0, 0), (1, .ifCond .lt 8, 3, 12, 0, 0, 0, 0, 0, 0), (4, .iload_n 0, 1, 2, 0, 0, 0, 0, 0, 0), (5, .iload_n 1, 1, 2, 0, 0, 0, 0, 0, 0), (6, .if_icmp .lt 10, 3, 12, 0, 0, 0, 0, 0, 0), (9, .aload_n 2, 1, 3, 0, 0, 0, 0, 0, 0), (10, .iload_n 0, 1, 2, 0, 0, 0, 0, 0, 0), (11, .iload_n 1, 1, 2, 0, 0, 0, 0, 0, 0), (12, .invokestatic 95, 3, 20, 0, 9, 0, 0, 0, 0), (15, .athrow, 1, 25, 0, 0, 0, 0, 0, 0), (16, .iload_n 0, 1, 2, 0, 0, 0, 0, 0, 0), (17, .ireturn, 1, 21, 0, 0, 0, 0, 0, 0)])]
def ee_me313 : ee_me := (16, ⟨"jdk/internal/util/Preconditions", "checkIndex", "(IILjava/util/function/BiFunction;)I"⟩, prog_19_method_11_code, 3, (some .int), ee_B313, 0, 0)
set_option maxRecDepth 100000 in
theorem ee_me313ok : ee_Mb ee_me313 = true := by decide +kernel
