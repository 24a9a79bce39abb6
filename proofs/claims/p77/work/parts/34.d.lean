theorem k2_op_r : chk2 GX pc_op DH 3000 r2_op = true := by decide +kernel
