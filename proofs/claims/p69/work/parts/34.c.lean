theorem k2_statement_r : chk2 GX pc_statement DH 3000 r2_statement = true := by decide +kernel
theorem k2_statement_0 : chk2 GX pc_statement DH 3000 a2_statement_0 = true := by decide +kernel
theorem k2_statement_1 : chk2 GX pc_statement DH 3000 a2_statement_1 = true := by decide +kernel
theorem k2_statement_2 : chk2 GX pc_statement DH 3000 a2_statement_2 = true := by decide +kernel
theorem k2_statement_3 : chk2 GX pc_statement DH 3000 a2_statement_3 = true := by decide +kernel
theorem k2_statement_4 : chk2 GX pc_statement DH 3000 a2_statement_4 = true := by decide +kernel
