theorem k2_flow_3 : chk2 GX pc_flow DH 3000 a2_flow_3 = true := by decide +kernel
theorem k2_flow_4 : chk2 GX pc_flow DH 3000 a2_flow_4 = true := by decide +kernel
theorem k2_flow_5 : chk2 GX pc_flow DH 3000 a2_flow_5 = true := by decide +kernel
theorem k2_flow_6 : chk2 GX pc_flow DH 3000 a2_flow_6 = true := by decide +kernel
theorem k2_flow_7 : chk2 GX pc_flow DH 3000 a2_flow_7 = true := by decide +kernel
theorem k2_flow_8 : chk2 GX pc_flow DH 3000 a2_flow_8 = true := by decide +kernel
theorem k2_flow_9 : chk2 GX pc_flow DH 3000 a2_flow_9 = true := by decide +kernel
theorem k2_variable_r : chk2 GX pc_variable DH 3000 r2_variable = true := by decide +kernel
