def ee_xq133 : ee_cell := .inl (9, [.ref 1, .ref 2, .retAddr 0, .retAddr 1, .int 0, .retAddr 2, .retAddr 3, .retAddr 4, .retAddr 5, .retAddr 6, .double 0, .ref 3, .ref 4, .ref 5, .ref 6, .ref 7, .ref 8, .ref 9, .ref 10, .ref 11, .ref 12, .ref 13, .ref 14, .ref 15, .ref 16, .ref 17, .ref 18, .ref 19, .ref 20, .ref 21, .ref 22, .ref 23, .ref 24, .int 0, .int 1, .retAddr 7, .retAddr 8, .retAddr 9, .retAddr 10, .retAddr 11, .retAddr 12, .retAddr 13, .ref 25, .retAddr 14, .retAddr 15, .ref 26, .retAddr 16, .retAddr 17, .ref 27, .ref 28, .retAddr 18, .ref 29, .ref 30, .ref 31, .ref 32, .ref 33, .ref 34, .ref 35, .ref 36, .ref 37, .retAddr 19, .retAddr 20, .retAddr 21, .ref 38, .ref 39])
def ee_xw66 : ee_w := [ee_xq133, ee_xq1, ee_xq2, ee_xq102, ee_xq103, ee_xq104, ee_xq6, ee_xq7, ee_xq8, ee_xq105, ee_xq10, ee_xq11, ee_xq12, ee_xq12, ee_xq13, ee_xq106, ee_xq83, ee_xq16, ee_xq17, ee_xq18, ee_xq76, ee_xq20, ee_xq84, ee_xq85, ee_xq22, ee_xq23, ee_xq24, ee_xq23, ee_xq26, ee_xq27, ee_xq28, ee_xq29, ee_xq30, ee_xq30, ee_xq30, ee_xq30, ee_xq10, ee_xq31, ee_xq32, ee_xq33]
def ee_xq134 : ee_cell := .inl (9, [.ref 1, .ref 2, .retAddr 0, .retAddr 1, .int 0, .retAddr 2, .retAddr 34, .retAddr 35, .retAddr 36, .retAddr 37, .double 0, .ref 3, .ref 4, .ref 5, .ref 6, .ref 7, .ref 8, .ref 9, .ref 10, .ref 11, .ref 12, .ref 13, .ref 14, .ref 15, .ref 16, .ref 17, .ref 18, .ref 19, .ref 20, .ref 21, .ref 22, .ref 23, .ref 24, .int 0, .int 1, .retAddr 38, .retAddr 8, .retAddr 9, .retAddr 39, .retAddr 11, .retAddr 12, .retAddr 13, .ref 25, .retAddr 14, .retAddr 15, .ref 26, .retAddr 16, .retAddr 17, .ref 27, .ref 28, .retAddr 18, .ref 29, .ref 30, .ref 31, .ref 32, .ref 33, .ref 34, .ref 35, .ref 36, .ref 37, .retAddr 19, .retAddr 20, .retAddr 21, .ref 38, .ref 39])
def ee_xw67 : ee_w := [ee_xq134, ee_xq1, ee_xq2, ee_xq102, ee_xq103, ee_xq104, ee_xq6, ee_xq7, ee_xq8, ee_xq105, ee_xq10, ee_xq11, ee_xq12, ee_xq12, ee_xq13, ee_xq106, ee_xq83, ee_xq16, ee_xq17, ee_xq18, ee_xq108, ee_xq20, ee_xq84, ee_xq85, ee_xq22, ee_xq23, ee_xq24, ee_xq23, ee_xq26, ee_xq27, ee_xq28, ee_xq29, ee_xq30, ee_xq30, ee_xq30, ee_xq30, ee_xq10, ee_xq31, ee_xq32, ee_xq33]
def ee_xw68 : ee_w := [ee_xq134, ee_xq1, ee_xq2, ee_xq102, ee_xq103, ee_xq104, ee_xq6, ee_xq7, ee_xq8, ee_xq105, ee_xq10, ee_xq11, ee_xq12, ee_xq12, ee_xq13, ee_xq106, ee_xq83, ee_xq16, ee_xq17, ee_xq18, ee_xq109, ee_xq20, ee_xq84, ee_xq85, ee_xq22, ee_xq23, ee_xq24, ee_xq23, ee_xq26, ee_xq27, ee_xq28, ee_xq29, ee_xq30, ee_xq30, ee_xq30, ee_xq30, ee_xq10, ee_xq31, ee_xq32, ee_xq33]
def ee_xw69 : ee_w := [ee_xq134, ee_xq1, ee_xq2, ee_xq102, ee_xq103, ee_xq104, ee_xq6, ee_xq7, ee_xq8, ee_xq105, ee_xq10, ee_xq11, ee_xq12, ee_xq12, ee_xq13, ee_xq106, ee_xq83, ee_xq16, ee_xq17, ee_xq18, ee_xq110, ee_xq20, ee_xq84, ee_xq85, ee_xq22, ee_xq23, ee_xq24, ee_xq23, ee_xq26, ee_xq27, ee_xq28, ee_xq29, ee_xq30, ee_xq30, ee_xq30, ee_xq30, ee_xq10, ee_xq31, ee_xq32, ee_xq33]
def ee_xw70 : ee_w := [ee_xq134, ee_xq1, ee_xq2, ee_xq102, ee_xq103, ee_xq104, ee_xq6, ee_xq7, ee_xq8, ee_xq105, ee_xq10, ee_xq11, ee_xq12, ee_xq12, ee_xq13, ee_xq106, ee_xq83, ee_xq16, ee_xq17, ee_xq18, ee_xq111, ee_xq20, ee_xq84, ee_xq85, ee_xq22, ee_xq23, ee_xq24, ee_xq23, ee_xq26, ee_xq27, ee_xq28, ee_xq29, ee_xq30, ee_xq30, ee_xq30, ee_xq30, ee_xq10, ee_xq31, ee_xq32, ee_xq33]
def ee_xw71 : ee_w := [ee_xq134, ee_xq1, ee_xq2, ee_xq102, ee_xq103, ee_xq104, ee_xq6, ee_xq7, ee_xq8, ee_xq105, ee_xq10, ee_xq11, ee_xq12, ee_xq12, ee_xq13, ee_xq106, ee_xq83, ee_xq16, ee_xq17, ee_xq18, ee_xq112, ee_xq20, ee_xq84, ee_xq85, ee_xq22, ee_xq23, ee_xq24, ee_xq23, ee_xq26, ee_xq27, ee_xq28, ee_xq29, ee_xq30, ee_xq30, ee_xq30, ee_xq30, ee_xq10, ee_xq31, ee_xq32, ee_xq33]
def ee_xw72 : ee_w := [ee_xq134, ee_xq1, ee_xq2, ee_xq102, ee_xq103, ee_xq104, ee_xq6, ee_xq7, ee_xq8, ee_xq105, ee_xq10, ee_xq11, ee_xq12, ee_xq12, ee_xq13, ee_xq106, ee_xq83, ee_xq16, ee_xq17, ee_xq18, ee_xq113, ee_xq20, ee_xq84, ee_xq85, ee_xq22, ee_xq23, ee_xq24, ee_xq23, ee_xq26, ee_xq27, ee_xq28, ee_xq29, ee_xq30, ee_xq30, ee_xq30, ee_xq30, ee_xq10, ee_xq31, ee_xq32, ee_xq33]
def ee_xw73 : ee_w := [ee_xq134, ee_xq1, ee_xq2, ee_xq102, ee_xq103, ee_xq104, ee_xq6, ee_xq7, ee_xq8, ee_xq105, ee_xq10, ee_xq11, ee_xq12, ee_xq12, ee_xq13, ee_xq106, ee_xq83, ee_xq16, ee_xq17, ee_xq18, ee_xq114, ee_xq20, ee_xq84, ee_xq85, ee_xq22, ee_xq23, ee_xq24, ee_xq23, ee_xq26, ee_xq27, ee_xq28, ee_xq29, ee_xq30, ee_xq30, ee_xq30, ee_xq30, ee_xq10, ee_xq31, ee_xq32, ee_xq33]
def ee_xq135 : ee_cell := .inl (9, [.ref 1, .ref 2, .retAddr 0, .retAddr 1, .int 0, .retAddr 2, .retAddr 34, .retAddr 35, .retAddr 36, .retAddr 37, .double 0, .ref 3, .ref 4, .ref 5, .ref 6, .ref 7, .ref 8, .ref 9, .ref 10, .ref 11, .ref 12, .ref 13, .ref 14, .ref 15, .ref 16, .ref 17, .ref 18, .ref 19, .ref 20, .ref 21, .ref 22, .ref 23, .ref 24, .int 0, .int 1, .retAddr 7, .retAddr 38, .retAddr 39, .retAddr 10, .retAddr 11, .retAddr 12, .retAddr 13, .ref 25, .retAddr 14, .retAddr 15, .ref 26, .retAddr 16, .retAddr 17, .ref 27, .ref 28, .retAddr 18, .ref 29, .ref 30, .ref 31, .ref 32, .ref 33, .ref 34, .ref 35, .ref 36, .ref 37, .retAddr 19, .retAddr 20, .retAddr 21, .ref 38, .ref 39])
def ee_xw74 : ee_w := [ee_xq135, ee_xq1, ee_xq2, ee_xq102, ee_xq103, ee_xq104, ee_xq6, ee_xq7, ee_xq8, ee_xq105, ee_xq10, ee_xq11, ee_xq12, ee_xq12, ee_xq13, ee_xq106, ee_xq83, ee_xq16, ee_xq17, ee_xq18, ee_xq76, ee_xq20, ee_xq116, ee_xq117, ee_xq22, ee_xq23, ee_xq24, ee_xq23, ee_xq26, ee_xq27, ee_xq28, ee_xq29, ee_xq30, ee_xq30, ee_xq30, ee_xq30, ee_xq10, ee_xq31, ee_xq32, ee_xq33]
def ee_xq136 : ee_cell := .inl (9, [.ref 1, .ref 2, .retAddr 0, .retAddr 1, .int 0, .retAddr 2, .retAddr 34, .retAddr 35, .retAddr 36, .retAddr 37, .double 0, .ref 3, .ref 4, .ref 5, .ref 6, .ref 7, .ref 8, .ref 9, .ref 10, .ref 11, .ref 12, .ref 13, .ref 14, .ref 15, .ref 16, .ref 17, .ref 18, .ref 19, .ref 20, .ref 21, .ref 22, .ref 23, .ref 24, .int 0, .int 1, .retAddr 7, .retAddr 38, .retAddr 39, .retAddr 40, .retAddr 11, .retAddr 12, .retAddr 13, .ref 25, .retAddr 14, .retAddr 15, .ref 26, .retAddr 16, .retAddr 17, .ref 27, .ref 28, .retAddr 18, .ref 29, .ref 30, .ref 31, .ref 32, .ref 33, .ref 34, .ref 35, .ref 36, .ref 37, .retAddr 19, .retAddr 20, .retAddr 21, .ref 38, .ref 39])
def ee_xw75 : ee_w := [ee_xq136, ee_xq1, ee_xq2, ee_xq102, ee_xq103, ee_xq104, ee_xq6, ee_xq7, ee_xq8, ee_xq105, ee_xq10, ee_xq11, ee_xq12, ee_xq12, ee_xq13, ee_xq106, ee_xq83, ee_xq16, ee_xq17, ee_xq18, ee_xq76, ee_xq20, ee_xq119, ee_xq117, ee_xq22, ee_xq23, ee_xq24, ee_xq23, ee_xq26, ee_xq27, ee_xq28, ee_xq29, ee_xq30, ee_xq30, ee_xq30, ee_xq30, ee_xq10, ee_xq31, ee_xq32, ee_xq33]
def ee_xq137 : ee_cell := .inl (9, [.ref 1, .ref 2, .retAddr 0, .retAddr 1, .retAddr 34, .retAddr 3, .retAddr 3, .retAddr 4, .retAddr 5, .retAddr 6, .double 0, .ref 3, .ref 4, .ref 5, .ref 6, .ref 7, .ref 8, .ref 9, .ref 10, .ref 11, .ref 12, .ref 13, .ref 14, .ref 15, .ref 16, .ref 17, .ref 18, .ref 19, .ref 20, .ref 21, .ref 22, .ref 23, .ref 24, .int 0, .int 1, .retAddr 7, .retAddr 8, .retAddr 9, .retAddr 10, .retAddr 11, .retAddr 12, .retAddr 13, .ref 25, .retAddr 14, .retAddr 15, .ref 26, .retAddr 16, .retAddr 17, .ref 27, .ref 28, .retAddr 18, .ref 29, .ref 30, .ref 31, .ref 32, .ref 33, .ref 34, .ref 35, .ref 36, .ref 37, .retAddr 19, .retAddr 20, .retAddr 21, .ref 38, .ref 39])
def ee_xw76 : ee_w := [ee_xq137, ee_xq1, ee_xq2, ee_xq102, ee_xq103, ee_xq104, ee_xq6, ee_xq7, ee_xq8, ee_xq105, ee_xq10, ee_xq11, ee_xq12, ee_xq12, ee_xq13, ee_xq106, ee_xq83, ee_xq16, ee_xq17, ee_xq18, ee_xq76, ee_xq20, ee_xq84, ee_xq85, ee_xq22, ee_xq23, ee_xq24, ee_xq23, ee_xq26, ee_xq27, ee_xq28, ee_xq29, ee_xq30, ee_xq30, ee_xq30, ee_xq30, ee_xq10, ee_xq31, ee_xq32, ee_xq33]
/- PepperTablesModel.unit@F1 -/
def ee_k384 : ee_ct := (286, [.ref 0], ee_xw66, ee_xi39, [([.int 0], ee_xw67, ee_xi40), ([.int 0], ee_xw68, ee_xi40), ([.int 0], ee_xw69, ee_xi40), ([.int 0], ee_xw70, ee_xi40), ([.int 0], ee_xw71, ee_xi40), ([.int 0], ee_xw72, ee_xi40), ([.int 0], ee_xw73, ee_xi40), ([.int 1], ee_xw74, ee_xi41), ([.int 1], ee_xw75, ee_xi42), ([.int 1], ee_xw76, ee_xi43)], 2)
def ee_xq138 : ee_cell := .inr (0, 2, 0, [(2, 0, 60)], [(1, .retAddr 36)])
def ee_xw77 : ee_w := [ee_xq133, ee_xq1, ee_xq2, ee_xq102, ee_xq103, ee_xq104, ee_xq138, ee_xq7, ee_xq8, ee_xq105, ee_xq10, ee_xq11, ee_xq12, ee_xq12, ee_xq13, ee_xq106, ee_xq83, ee_xq16, ee_xq17, ee_xq18, ee_xq76, ee_xq20, ee_xq84, ee_xq85, ee_xq22, ee_xq23, ee_xq24, ee_xq23, ee_xq26, ee_xq27, ee_xq28, ee_xq29, ee_xq30, ee_xq30, ee_xq30, ee_xq30, ee_xq10, ee_xq31, ee_xq32, ee_xq33]
def ee_xq139 : ee_cell := .inr (0, 2, 0, [(2, 0, 60)], [(1, .retAddr 37)])
def ee_xw78 : ee_w := [ee_xq133, ee_xq1, ee_xq2, ee_xq102, ee_xq103, ee_xq104, ee_xq139, ee_xq7, ee_xq8, ee_xq105, ee_xq10, ee_xq11, ee_xq12, ee_xq12, ee_xq13, ee_xq106, ee_xq83, ee_xq16, ee_xq17, ee_xq18, ee_xq76, ee_xq20, ee_xq84, ee_xq85, ee_xq22, ee_xq23, ee_xq24, ee_xq23, ee_xq26, ee_xq27, ee_xq28, ee_xq29, ee_xq30, ee_xq30, ee_xq30, ee_xq30, ee_xq10, ee_xq31, ee_xq32, ee_xq33]
def ee_u384_0 : List ee_cu := [(37, [(0, .ref 0), (1, .retAddr 34)], [], ee_xw66, ee_xi44, 17, []),
  (57, [(0, .ref 0), (1, .retAddr 34), (2, .int 0)], [], ee_xw66, ee_xi44, 14, []),
  (57, [(0, .ref 0), (1, .retAddr 34), (2, .int 1)], [], ee_xw66, ee_xi45, 14, []),
  (70, [(0, .ref 0), (1, .retAddr 34), (2, .int 0), (3, .retAddr 35), (4, .int 104)], [], ee_xw66, ee_xi46, 11, []),
  (70, [(0, .ref 0), (1, .retAddr 34), (2, .int 0), (3, .retAddr 35), (4, .int 115)], [], ee_xw66, ee_xi46, 11, []),
  (70, [(0, .ref 0), (1, .retAddr 34), (2, .int 0), (3, .retAddr 35), (4, .int 103)], [], ee_xw66, ee_xi46, 11, []),
  (70, [(0, .ref 0), (1, .retAddr 34), (2, .int 0), (3, .retAddr 35), (4, .int 114)], [], ee_xw66, ee_xi46, 11, []),
  (70, [(0, .ref 0), (1, .retAddr 34), (2, .int 0), (3, .retAddr 35), (4, .int 116)], [], ee_xw66, ee_xi46, 11, []),
  (70, [(0, .ref 0), (1, .retAddr 34), (2, .int 0), (3, .retAddr 35), (4, .int 99)], [], ee_xw66, ee_xi46, 11, []),
  (70, [(0, .ref 0), (1, .retAddr 34), (2, .int 0), (3, .retAddr 35), (4, .int 0)], [], ee_xw66, ee_xi47, 11, []),
  (70, [(0, .ref 0), (1, .retAddr 34), (2, .int 1), (3, .retAddr 35), (4, .int 104)], [], ee_xw66, ee_xi48, 11, []),
  (70, [(0, .ref 0), (1, .retAddr 34), (2, .int 1), (3, .retAddr 35), (4, .int 115)], [], ee_xw66, ee_xi48, 11, []),
  (70, [(0, .ref 0), (1, .retAddr 34), (2, .int 1), (3, .retAddr 35), (4, .int 103)], [], ee_xw66, ee_xi48, 11, []),
  (70, [(0, .ref 0), (1, .retAddr 34), (2, .int 1), (3, .retAddr 35), (4, .int 114)], [], ee_xw66, ee_xi48, 11, []),
  (70, [(0, .ref 0), (1, .retAddr 34), (2, .int 1), (3, .retAddr 35), (4, .int 116)], [], ee_xw66, ee_xi48, 11, []),
  (70, [(0, .ref 0), (1, .retAddr 34), (2, .int 1), (3, .retAddr 35), (4, .int 99)], [], ee_xw66, ee_xi48, 11, [])]
def ee_u384_1 : List ee_cu := [(70, [(0, .ref 0), (1, .retAddr 34), (2, .int 1), (3, .retAddr 35), (4, .int 0)], [], ee_xw66, ee_xi48, 11, []),
  (84, [(0, .ref 0), (1, .retAddr 34), (2, .int 0), (3, .retAddr 35), (4, .int 104)], [], ee_xw77, ee_xi49, 8, []),
  (100, [(0, .ref 0), (1, .retAddr 34), (2, .int 0), (3, .retAddr 35), (4, .int 104), (5, .int 1)], [], ee_xw77, ee_xi50, 5, []),
  (84, [(0, .ref 0), (1, .retAddr 34), (2, .int 0), (3, .retAddr 35), (4, .int 115)], [], ee_xw77, ee_xi49, 8, []),
  (100, [(0, .ref 0), (1, .retAddr 34), (2, .int 0), (3, .retAddr 35), (4, .int 115), (5, .int 1)], [], ee_xw77, ee_xi50, 5, []),
  (84, [(0, .ref 0), (1, .retAddr 34), (2, .int 0), (3, .retAddr 35), (4, .int 103)], [], ee_xw77, ee_xi49, 8, []),
  (100, [(0, .ref 0), (1, .retAddr 34), (2, .int 0), (3, .retAddr 35), (4, .int 103), (5, .int 1)], [], ee_xw77, ee_xi50, 5, []),
  (84, [(0, .ref 0), (1, .retAddr 34), (2, .int 0), (3, .retAddr 35), (4, .int 114)], [], ee_xw77, ee_xi49, 8, []),
  (100, [(0, .ref 0), (1, .retAddr 34), (2, .int 0), (3, .retAddr 35), (4, .int 114), (5, .int 1)], [], ee_xw77, ee_xi50, 5, []),
  (84, [(0, .ref 0), (1, .retAddr 34), (2, .int 0), (3, .retAddr 35), (4, .int 116)], [], ee_xw77, ee_xi49, 8, []),
  (100, [(0, .ref 0), (1, .retAddr 34), (2, .int 0), (3, .retAddr 35), (4, .int 116), (5, .int 1)], [], ee_xw77, ee_xi50, 5, []),
  (84, [(0, .ref 0), (1, .retAddr 34), (2, .int 0), (3, .retAddr 35), (4, .int 99)], [], ee_xw77, ee_xi49, 8, []),
  (100, [(0, .ref 0), (1, .retAddr 34), (2, .int 0), (3, .retAddr 35), (4, .int 99), (5, .int 1)], [], ee_xw77, ee_xi50, 5, []),
  (84, [(0, .ref 0), (1, .retAddr 34), (2, .int 0), (3, .retAddr 35), (4, .int 0)], [], ee_xw77, ee_xi51, 8, []),
  (100, [(0, .ref 0), (1, .retAddr 34), (2, .int 0), (3, .retAddr 35), (4, .int 0), (5, .int 1)], [], ee_xw77, ee_xi52, 5, []),
  (84, [(0, .ref 0), (1, .retAddr 34), (2, .int 1), (3, .retAddr 35), (4, .int 104)], [], ee_xw77, ee_xi53, 8, [])]
def ee_u384_2 : List ee_cu := [(100, [(0, .ref 0), (1, .retAddr 34), (2, .int 1), (3, .retAddr 35), (4, .int 104), (5, .int 1)], [], ee_xw77, ee_xi54, 5, []),
  (84, [(0, .ref 0), (1, .retAddr 34), (2, .int 1), (3, .retAddr 35), (4, .int 115)], [], ee_xw77, ee_xi53, 8, []),
  (100, [(0, .ref 0), (1, .retAddr 34), (2, .int 1), (3, .retAddr 35), (4, .int 115), (5, .int 1)], [], ee_xw77, ee_xi54, 5, []),
  (84, [(0, .ref 0), (1, .retAddr 34), (2, .int 1), (3, .retAddr 35), (4, .int 103)], [], ee_xw77, ee_xi53, 8, []),
  (100, [(0, .ref 0), (1, .retAddr 34), (2, .int 1), (3, .retAddr 35), (4, .int 103), (5, .int 1)], [], ee_xw77, ee_xi54, 5, []),
  (84, [(0, .ref 0), (1, .retAddr 34), (2, .int 1), (3, .retAddr 35), (4, .int 114)], [], ee_xw77, ee_xi53, 8, []),
  (100, [(0, .ref 0), (1, .retAddr 34), (2, .int 1), (3, .retAddr 35), (4, .int 114), (5, .int 1)], [], ee_xw77, ee_xi54, 5, []),
  (84, [(0, .ref 0), (1, .retAddr 34), (2, .int 1), (3, .retAddr 35), (4, .int 116)], [], ee_xw77, ee_xi53, 8, []),
  (100, [(0, .ref 0), (1, .retAddr 34), (2, .int 1), (3, .retAddr 35), (4, .int 116), (5, .int 1)], [], ee_xw77, ee_xi54, 5, []),
  (84, [(0, .ref 0), (1, .retAddr 34), (2, .int 1), (3, .retAddr 35), (4, .int 99)], [], ee_xw77, ee_xi53, 8, []),
  (100, [(0, .ref 0), (1, .retAddr 34), (2, .int 1), (3, .retAddr 35), (4, .int 99), (5, .int 1)], [], ee_xw77, ee_xi54, 5, []),
  (84, [(0, .ref 0), (1, .retAddr 34), (2, .int 1), (3, .retAddr 35), (4, .int 0)], [], ee_xw77, ee_xi53, 8, []),
  (100, [(0, .ref 0), (1, .retAddr 34), (2, .int 1), (3, .retAddr 35), (4, .int 0), (5, .int 1)], [], ee_xw77, ee_xi54, 5, []),
  (100, [(0, .ref 0), (1, .retAddr 34), (2, .int 0), (3, .retAddr 35), (4, .int 104), (5, .int 0)], [], ee_xw77, ee_xi55, 5, []),
  (100, [(0, .ref 0), (1, .retAddr 34), (2, .int 0), (3, .retAddr 35), (4, .int 115), (5, .int 0)], [], ee_xw77, ee_xi55, 5, []),
  (100, [(0, .ref 0), (1, .retAddr 34), (2, .int 0), (3, .retAddr 35), (4, .int 103), (5, .int 0)], [], ee_xw77, ee_xi55, 5, [])]
def ee_u384_3 : List ee_cu := [(100, [(0, .ref 0), (1, .retAddr 34), (2, .int 0), (3, .retAddr 35), (4, .int 114), (5, .int 0)], [], ee_xw77, ee_xi55, 5, []),
  (100, [(0, .ref 0), (1, .retAddr 34), (2, .int 0), (3, .retAddr 35), (4, .int 116), (5, .int 0)], [], ee_xw77, ee_xi55, 5, []),
  (100, [(0, .ref 0), (1, .retAddr 34), (2, .int 0), (3, .retAddr 35), (4, .int 99), (5, .int 0)], [], ee_xw77, ee_xi55, 5, []),
  (100, [(0, .ref 0), (1, .retAddr 34), (2, .int 0), (3, .retAddr 35), (4, .int 0), (5, .int 0)], [], ee_xw77, ee_xi56, 5, []),
  (100, [(0, .ref 0), (1, .retAddr 34), (2, .int 1), (3, .retAddr 35), (4, .int 104), (5, .int 0)], [], ee_xw77, ee_xi57, 5, []),
  (156, [(0, .ref 0), (1, .retAddr 34), (2, .int 1), (3, .retAddr 35), (4, .int 104), (5, .retAddr 36)], [], ee_xw78, ee_xi58, 2, []),
  (100, [(0, .ref 0), (1, .retAddr 34), (2, .int 1), (3, .retAddr 35), (4, .int 115), (5, .int 0)], [], ee_xw77, ee_xi57, 5, []),
  (156, [(0, .ref 0), (1, .retAddr 34), (2, .int 1), (3, .retAddr 35), (4, .int 115), (5, .retAddr 36)], [], ee_xw78, ee_xi58, 2, []),
  (100, [(0, .ref 0), (1, .retAddr 34), (2, .int 1), (3, .retAddr 35), (4, .int 103), (5, .int 0)], [], ee_xw77, ee_xi57, 5, []),
  (156, [(0, .ref 0), (1, .retAddr 34), (2, .int 1), (3, .retAddr 35), (4, .int 103), (5, .retAddr 36)], [], ee_xw78, ee_xi58, 2, []),
  (100, [(0, .ref 0), (1, .retAddr 34), (2, .int 1), (3, .retAddr 35), (4, .int 114), (5, .int 0)], [], ee_xw77, ee_xi57, 5, []),
  (156, [(0, .ref 0), (1, .retAddr 34), (2, .int 1), (3, .retAddr 35), (4, .int 114), (5, .retAddr 36)], [], ee_xw78, ee_xi58, 2, []),
  (100, [(0, .ref 0), (1, .retAddr 34), (2, .int 1), (3, .retAddr 35), (4, .int 116), (5, .int 0)], [], ee_xw77, ee_xi57, 5, []),
  (156, [(0, .ref 0), (1, .retAddr 34), (2, .int 1), (3, .retAddr 35), (4, .int 116), (5, .retAddr 36)], [], ee_xw78, ee_xi58, 2, []),
  (100, [(0, .ref 0), (1, .retAddr 34), (2, .int 1), (3, .retAddr 35), (4, .int 99), (5, .int 0)], [], ee_xw77, ee_xi57, 5, []),
  (156, [(0, .ref 0), (1, .retAddr 34), (2, .int 1), (3, .retAddr 35), (4, .int 99), (5, .retAddr 36)], [], ee_xw78, ee_xi58, 2, [])]
def ee_u384_4 : List ee_cu := [(100, [(0, .ref 0), (1, .retAddr 34), (2, .int 1), (3, .retAddr 35), (4, .int 0), (5, .int 0)], [], ee_xw77, ee_xi57, 5, []),
  (156, [(0, .ref 0), (1, .retAddr 34), (2, .int 1), (3, .retAddr 35), (4, .int 0), (5, .retAddr 36)], [], ee_xw78, ee_xi58, 2, []),
  (156, [(0, .ref 0), (1, .retAddr 34), (2, .int 0), (3, .retAddr 35), (4, .int 104), (5, .int 0)], [], ee_xw77, ee_xi59, 2, []),
  (156, [(0, .ref 0), (1, .retAddr 34), (2, .int 0), (3, .retAddr 35), (4, .int 104), (5, .int 0)], [], ee_xw77, ee_xi60, 2, []),
  (156, [(0, .ref 0), (1, .retAddr 34), (2, .int 0), (3, .retAddr 35), (4, .int 115), (5, .int 0)], [], ee_xw77, ee_xi59, 2, []),
  (156, [(0, .ref 0), (1, .retAddr 34), (2, .int 0), (3, .retAddr 35), (4, .int 115), (5, .int 0)], [], ee_xw77, ee_xi60, 2, []),
  (156, [(0, .ref 0), (1, .retAddr 34), (2, .int 0), (3, .retAddr 35), (4, .int 103), (5, .int 0)], [], ee_xw77, ee_xi59, 2, []),
  (156, [(0, .ref 0), (1, .retAddr 34), (2, .int 0), (3, .retAddr 35), (4, .int 103), (5, .int 0)], [], ee_xw77, ee_xi60, 2, []),
  (156, [(0, .ref 0), (1, .retAddr 34), (2, .int 0), (3, .retAddr 35), (4, .int 114), (5, .int 0)], [], ee_xw77, ee_xi59, 2, []),
  (156, [(0, .ref 0), (1, .retAddr 34), (2, .int 0), (3, .retAddr 35), (4, .int 114), (5, .int 0)], [], ee_xw77, ee_xi60, 2, []),
  (156, [(0, .ref 0), (1, .retAddr 34), (2, .int 0), (3, .retAddr 35), (4, .int 116), (5, .int 0)], [], ee_xw77, ee_xi59, 2, []),
  (156, [(0, .ref 0), (1, .retAddr 34), (2, .int 0), (3, .retAddr 35), (4, .int 116), (5, .int 0)], [], ee_xw77, ee_xi60, 2, []),
  (156, [(0, .ref 0), (1, .retAddr 34), (2, .int 0), (3, .retAddr 35), (4, .int 99), (5, .int 0)], [], ee_xw77, ee_xi59, 2, []),
  (156, [(0, .ref 0), (1, .retAddr 34), (2, .int 0), (3, .retAddr 35), (4, .int 99), (5, .int 0)], [], ee_xw77, ee_xi60, 2, []),
  (156, [(0, .ref 0), (1, .retAddr 34), (2, .int 0), (3, .retAddr 35), (4, .int 0), (5, .int 0)], [], ee_xw77, ee_xi61, 2, []),
  (156, [(0, .ref 0), (1, .retAddr 34), (2, .int 0), (3, .retAddr 35), (4, .int 0), (5, .int 0)], [], ee_xw77, ee_xi62, 2, [])]
def ee_u384 : List ee_cu := ee_u384_0 ++ (ee_u384_1 ++ (ee_u384_2 ++ (ee_u384_3 ++ (ee_u384_4 ++ []))))
set_option maxRecDepth 1000000 in
theorem ee_k384.s0 : ee_u384_0.all (ee_sg2 ee_mt [ee_k379, ee_k381] [(286, 60, [0]), (286, 211, [1])] [] 5000 ee_me286 ee_k384 ee_u384) = true := by decide +kernel
