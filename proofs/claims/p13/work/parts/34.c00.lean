theorem k2_feature_r : chk2 GX pc_feature DH 3000 r2_feature = true := by decide +kernel
theorem k2_feature_0 : chk2 GX pc_feature DH 3000 a2_feature_0 = true := by decide +kernel
