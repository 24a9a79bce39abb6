theorem k2_room_r : chk2 GX pc_room DH 3000 r2_room = true := by decide +kernel
theorem k2_method_r : chk2 GX pc_method DH 3000 r2_method = true := by decide +kernel
