theorem k2_tight_3 : chk2 GX pc_tight DH 3000 a2_tight_3 = true := by decide +kernel
