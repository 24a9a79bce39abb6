theorem k2_perform_r : chk2 GX pc_perform DH 3000 r2_perform = true := by decide +kernel
