theorem k2_joined_4 : chk2 GX pc_joined DH 3000 a2_joined_4 = true := by decide +kernel
theorem k2_joined_5 : chk2 GX pc_joined DH 3000 a2_joined_5 = true := by decide +kernel
theorem k2_joined_6 : chk2 GX pc_joined DH 3000 a2_joined_6 = true := by decide +kernel
theorem k2_joined_7 : chk2 GX pc_joined DH 3000 a2_joined_7 = true := by decide +kernel
theorem k2_joined_8 : chk2 GX pc_joined DH 3000 a2_joined_8 = true := by decide +kernel
