theorem k2_item_r : chk2 GX pc_item DH 3000 r2_item = true := by decide +kernel
