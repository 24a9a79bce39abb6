def p70_s_1_3 : Sy := ⟨2, [(0, [(0, 0)]), (1, [(2, 2)])], [(74, (.c 0, .c 1)), (74, (.c 1, .c 2)), (74, (.c 2, .c 4)), (74, (.c 3, .c 8))], [(200, (16, .c 0)), (201, (4, .c 0))]⟩
theorem p70_ok_1_3 : chkPair p70_x false 100000 240 453 p70_c p70_c [.r 0, .i 0 0, .i 1 0] [.r 110, .i 0 0, .i 1 0] p70_s_1_3 = true := by decide +kernel
theorem p70_me_1_3 : meOk p70_s_1_3 = true := by decide +kernel
def p70_s_1_4 : Sy := ⟨2, [(0, [(0, 0)]), (1, [(3, 3)])], [(74, (.c 0, .c 1)), (74, (.c 1, .c 2)), (74, (.c 2, .c 4)), (74, (.c 3, .c 8))], [(200, (16, .c 0)), (201, (4, .c 0))]⟩
theorem p70_ok_1_4 : chkPair p70_x false 100000 240 453 p70_c p70_c [.r 0, .i 0 0, .i 1 0] [.r 110, .i 0 0, .i 1 0] p70_s_1_4 = true := by decide +kernel
theorem p70_me_1_4 : meOk p70_s_1_4 = true := by decide +kernel
def p70_s_1_5 : Sy := ⟨2, [(0, [(0, 0)]), (1, [(4, 2147483647)])], [(74, (.c 0, .c 1)), (74, (.c 1, .c 2)), (74, (.c 2, .c 4)), (74, (.c 3, .c 8))], [(200, (16, .c 0)), (201, (4, .c 0))]⟩
theorem p70_ok_1_5 : chkPair p70_x false 100000 240 453 p70_c p70_c [.r 0, .i 0 0, .i 1 0] [.r 110, .i 0 0, .i 1 0] p70_s_1_5 = true := by decide +kernel
theorem p70_me_1_5 : meOk p70_s_1_5 = true := by decide +kernel
def p70_s_2_0 : Sy := ⟨2, [(0, [(1, 1)]), (1, [((-2147483648), (-1))])], [(74, (.c 0, .c 1)), (74, (.c 1, .c 2)), (74, (.c 2, .c 4)), (74, (.c 3, .c 8))], [(200, (16, .c 0)), (201, (4, .c 0))]⟩
theorem p70_ok_2_0 : chkPair p70_x false 100000 240 453 p70_c p70_c [.r 0, .i 0 0, .i 1 0] [.r 110, .i 0 0, .i 1 0] p70_s_2_0 = true := by decide +kernel
theorem p70_me_2_0 : meOk p70_s_2_0 = true := by decide +kernel
