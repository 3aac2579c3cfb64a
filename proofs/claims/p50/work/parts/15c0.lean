/- Integer.bitCount@10 -/
def ee_k0 : ee_ct := (297, [.retAddr 0], ee_xw26, (1, [(0, 0, 1023, [])]), [([.retAddr 1], ee_xw26, (2, [(0, 0, 1023, []), (1, 0, 10, [])]))], 0)
def ee_u0_0 : List ee_cu := [(1, [(0, .retAddr 0)], [.retAddr 0], ee_xw26, (1, [(0, 0, 63, [])]), 2, [])]
def ee_u0_1 : List ee_cu := [(1, [(0, .retAddr 0)], [.retAddr 0], ee_xw26, (1, [(0, 64, 127, [])]), 2, [])]
def ee_u0_2 : List ee_cu := [(1, [(0, .retAddr 0)], [.retAddr 0], ee_xw26, (1, [(0, 128, 191, [])]), 2, [])]
def ee_u0_3 : List ee_cu := [(1, [(0, .retAddr 0)], [.retAddr 0], ee_xw26, (1, [(0, 192, 255, [])]), 2, [])]
def ee_u0_4 : List ee_cu := [(1, [(0, .retAddr 0)], [.retAddr 0], ee_xw26, (1, [(0, 256, 319, [])]), 2, [])]
def ee_u0_5 : List ee_cu := [(1, [(0, .retAddr 0)], [.retAddr 0], ee_xw26, (1, [(0, 320, 383, [])]), 2, [])]
def ee_u0_6 : List ee_cu := [(1, [(0, .retAddr 0)], [.retAddr 0], ee_xw26, (1, [(0, 384, 447, [])]), 2, [])]
def ee_u0_7 : List ee_cu := [(1, [(0, .retAddr 0)], [.retAddr 0], ee_xw26, (1, [(0, 448, 511, [])]), 2, [])]
def ee_u0_8 : List ee_cu := [(1, [(0, .retAddr 0)], [.retAddr 0], ee_xw26, (1, [(0, 512, 575, [])]), 2, [])]
def ee_u0_9 : List ee_cu := [(1, [(0, .retAddr 0)], [.retAddr 0], ee_xw26, (1, [(0, 576, 639, [])]), 2, [])]
def ee_u0_10 : List ee_cu := [(1, [(0, .retAddr 0)], [.retAddr 0], ee_xw26, (1, [(0, 640, 703, [])]), 2, [])]
def ee_u0_11 : List ee_cu := [(1, [(0, .retAddr 0)], [.retAddr 0], ee_xw26, (1, [(0, 704, 767, [])]), 2, [])]
def ee_u0_12 : List ee_cu := [(1, [(0, .retAddr 0)], [.retAddr 0], ee_xw26, (1, [(0, 768, 831, [])]), 2, [])]
def ee_u0_13 : List ee_cu := [(1, [(0, .retAddr 0)], [.retAddr 0], ee_xw26, (1, [(0, 832, 895, [])]), 2, [])]
def ee_u0_14 : List ee_cu := [(1, [(0, .retAddr 0)], [.retAddr 0], ee_xw26, (1, [(0, 896, 959, [])]), 2, [])]
def ee_u0_15 : List ee_cu := [(1, [(0, .retAddr 0)], [.retAddr 0], ee_xw26, (1, [(0, 960, 1023, [])]), 2, [])]
def ee_u0 : List ee_cu := ee_u0_0 ++ (ee_u0_1 ++ (ee_u0_2 ++ (ee_u0_3 ++ (ee_u0_4 ++ (ee_u0_5 ++ (ee_u0_6 ++ (ee_u0_7 ++ (ee_u0_8 ++ (ee_u0_9 ++ (ee_u0_10 ++ (ee_u0_11 ++ (ee_u0_12 ++ (ee_u0_13 ++ (ee_u0_14 ++ (ee_u0_15 ++ [])))))))))))))))
set_option maxRecDepth 1000000 in
theorem ee_k0.s0 : ee_u0_0.all (ee_sg2 ee_mt [] [] [(297, 0, 0), (297, 1, 0)] 5000 ee_me297 ee_k0 ee_u0) = true := by decide +kernel
