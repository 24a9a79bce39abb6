theorem k2_stands_23 : chk2 GX pc_stands DH 3000 a2_stands_23 = true := by decide +kernel
theorem k2_stands_24 : chk2 GX pc_stands DH 3000 a2_stands_24 = true := by decide +kernel
theorem k2_stands_25 : chk2 GX pc_stands DH 3000 a2_stands_25 = true := by decide +kernel
theorem k2_stands_26 : chk2 GX pc_stands DH 3000 a2_stands_26 = true := by decide +kernel
theorem k2_stands_27 : chk2 GX pc_stands DH 3000 a2_stands_27 = true := by decide +kernel
theorem k2_chain_r : chk2 GX pc_chain DH 3000 r2_chain = true := by decide +kernel
