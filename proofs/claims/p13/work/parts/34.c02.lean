theorem k2_itemOf_r : chk2 GX pc_itemOf DH 3000 r2_itemOf = true := by decide +kernel
