def p70_s_2_1 : Sy := ⟨2, [(0, [(1, 1)]), (1, [(0, 0)])], [(74, (.c 0, .c 1)), (74, (.c 1, .c 2)), (74, (.c 2, .c 4)), (74, (.c 3, .c 8))], [(200, (16, .c 0)), (201, (4, .c 0))]⟩
theorem p70_ok_2_1 : chkPair p70_x false 100000 240 453 p70_c p70_c [.r 0, .i 0 0, .i 1 0] [.r 110, .i 0 0, .i 1 0] p70_s_2_1 = true := by decide +kernel
theorem p70_me_2_1 : meOk p70_s_2_1 = true := by decide +kernel
def p70_s_2_2 : Sy := ⟨2, [(0, [(1, 1)]), (1, [(1, 1)])], [(74, (.c 0, .c 1)), (74, (.c 1, .c 2)), (74, (.c 2, .c 4)), (74, (.c 3, .c 8))], [(200, (16, .c 0)), (201, (4, .c 0))]⟩
theorem p70_ok_2_2 : chkPair p70_x false 100000 240 453 p70_c p70_c [.r 0, .i 0 0, .i 1 0] [.r 110, .i 0 0, .i 1 0] p70_s_2_2 = true := by decide +kernel
theorem p70_me_2_2 : meOk p70_s_2_2 = true := by decide +kernel
