theorem k2_give_r : chk2 GX pc_give DH 3000 r2_give = true := by decide +kernel
theorem k2_give_0 : chk2 GX pc_give DH 3000 a2_give_0 = true := by decide +kernel
theorem k2_give_1 : chk2 GX pc_give DH 3000 a2_give_1 = true := by decide +kernel
theorem k2_give_2 : chk2 GX pc_give DH 3000 a2_give_2 = true := by decide +kernel
theorem k2_give_3 : chk2 GX pc_give DH 3000 a2_give_3 = true := by decide +kernel
