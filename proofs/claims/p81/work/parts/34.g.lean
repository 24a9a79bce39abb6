theorem k2_give_4 : chk2 GX pc_give DH 3000 a2_give_4 = true := by decide +kernel
theorem k2_give_5 : chk2 GX pc_give DH 3000 a2_give_5 = true := by decide +kernel
