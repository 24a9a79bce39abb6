theorem k2_knows_r : chk2 GX pc_knows DH 3000 r2_knows = true := by decide +kernel
