theorem ks_M_tellsOne3_5 : chk1A GX (dN DH) 3000 sct_M_tellsOne3 sw_M_tellsOne3 shn_M_tellsOne2 slb_M_tellsOne3 [] san_M_tellsOne3 a1_M_tellsOne3_5 = true := by decide +kernel
theorem ks_M_tellsOne3_6 : chk1A GX (dN DH) 3000 sct_M_tellsOne3 sw_M_tellsOne3 shn_M_tellsOne2 slb_M_tellsOne3 [] san_M_tellsOne3 a1_M_tellsOne3_6 = true := by decide +kernel
theorem ks_M_tellsOne3_7 : chk1A GX (dN DH) 3000 sct_M_tellsOne3 sw_M_tellsOne3 shn_M_tellsOne2 slb_M_tellsOne3 [] san_M_tellsOne3 a1_M_tellsOne3_7 = true := by decide +kernel
theorem ks_M_tellsOne3_8 : chk1A GX (dN DH) 3000 sct_M_tellsOne3 sw_M_tellsOne3 shn_M_tellsOne2 slb_M_tellsOne3 [] san_M_tellsOne3 a1_M_tellsOne3_8 = true := by decide +kernel
theorem ks_M_tellsOne3_9 : chk1A GX (dN DH) 3000 sct_M_tellsOne3 sw_M_tellsOne3 shn_M_tellsOne2 slb_M_tellsOne3 [] san_M_tellsOne3 a1_M_tellsOne3_9 = true := by decide +kernel
theorem ks_M_tellsOne3_10 : chk1A GX (dN DH) 3000 sct_M_tellsOne3 sw_M_tellsOne3 shn_M_tellsOne2 slb_M_tellsOne3 [] san_M_tellsOne3 a1_M_tellsOne3_10 = true := by decide +kernel
theorem ks_M_tellsOne3_11 : chk1A GX (dN DH) 3000 sct_M_tellsOne3 sw_M_tellsOne3 shn_M_tellsOne2 slb_M_tellsOne3 [] san_M_tellsOne3 a1_M_tellsOne3_11 = true := by decide +kernel
theorem ks_M_tellsOne3_12 : chk1A GX (dN DH) 3000 sct_M_tellsOne3 sw_M_tellsOne3 shn_M_tellsOne2 slb_M_tellsOne3 [] san_M_tellsOne3 a1_M_tellsOne3_12 = true := by decide +kernel
theorem ks_M_tellsOne3_13 : chk1A GX (dN DH) 3000 sct_M_tellsOne3 sw_M_tellsOne3 shn_M_tellsOne2 slb_M_tellsOne3 [] san_M_tellsOne3 a1_M_tellsOne3_13 = true := by decide +kernel
theorem ks_M_tellsOne3_14 : chk1A GX (dN DH) 3000 sct_M_tellsOne3 sw_M_tellsOne3 shn_M_tellsOne2 slb_M_tellsOne3 [] san_M_tellsOne3 a1_M_tellsOne3_14 = true := by decide +kernel
theorem ks_M_tellsOne3_15 : chk1A GX (dN DH) 3000 sct_M_tellsOne3 sw_M_tellsOne3 shn_M_tellsOne2 slb_M_tellsOne3 [] san_M_tellsOne3 a1_M_tellsOne3_15 = true := by decide +kernel
theorem k2_share_r : chk2 GX pc_share DH 3000 r2_share = true := by decide +kernel
theorem k2_share_0 : chk2 GX pc_share DH 3000 a2_share_0 = true := by decide +kernel
theorem k2_share_1 : chk2 GX pc_share DH 3000 a2_share_1 = true := by decide +kernel
theorem ks_Gu_countSets0_r : chk1E GX DH 3000 254 sct_Gu_countSets0 sw_Gu_countSets0 shn_Gu_countSets0 slb_Gu_countSets0 [] san_Gu_countSets0 1000000000 = true := by decide +kernel
theorem ks_Gu_countSets0_0 : chk1A GX DH 3000 sct_Gu_countSets0 sw_Gu_countSets0 shn_Gu_countSets0 slb_Gu_countSets0 [] san_Gu_countSets0 a1_Gu_countSets0_0 = true := by decide +kernel
theorem ks_Gu_countSets0_1 : chk1A GX DH 3000 sct_Gu_countSets0 sw_Gu_countSets0 shn_Gu_countSets0 slb_Gu_countSets0 [] san_Gu_countSets0 a1_Gu_countSets0_1 = true := by decide +kernel
theorem ks_Gu_countSets0_2 : chk1A GX DH 3000 sct_Gu_countSets0 sw_Gu_countSets0 shn_Gu_countSets0 slb_Gu_countSets0 [] san_Gu_countSets0 a1_Gu_countSets0_2 = true := by decide +kernel
theorem ks_Gu_countSets0_3 : chk1A GX DH 3000 sct_Gu_countSets0 sw_Gu_countSets0 shn_Gu_countSets0 slb_Gu_countSets0 [] san_Gu_countSets0 a1_Gu_countSets0_3 = true := by decide +kernel
theorem ks_Gu_rankOf0_r : chk1E GX DH 3000 247 sct_Gu_rankOf0 sw_Gu_rankOf0 shn_Gu_rankOf0 slb_Gu_rankOf0 [] san_Gu_rankOf0 1000000000 = true := by decide +kernel
theorem ks_Gu_rankOf0_0 : chk1A GX DH 3000 sct_Gu_rankOf0 sw_Gu_rankOf0 shn_Gu_rankOf0 slb_Gu_rankOf0 [] san_Gu_rankOf0 a1_Gu_rankOf0_0 = true := by decide +kernel
theorem ks_Gu_rankOf0_1 : chk1A GX DH 3000 sct_Gu_rankOf0 sw_Gu_rankOf0 shn_Gu_rankOf0 slb_Gu_rankOf0 [] san_Gu_rankOf0 a1_Gu_rankOf0_1 = true := by decide +kernel
theorem ks_Gu_rankOf0_2 : chk1A GX DH 3000 sct_Gu_rankOf0 sw_Gu_rankOf0 shn_Gu_rankOf0 slb_Gu_rankOf0 [] san_Gu_rankOf0 a1_Gu_rankOf0_2 = true := by decide +kernel
theorem ks_Gu_rankOf0_3 : chk1A GX DH 3000 sct_Gu_rankOf0 sw_Gu_rankOf0 shn_Gu_rankOf0 slb_Gu_rankOf0 [] san_Gu_rankOf0 a1_Gu_rankOf0_3 = true := by decide +kernel
theorem ks_Gu_rankOf0_4 : chk1A GX DH 3000 sct_Gu_rankOf0 sw_Gu_rankOf0 shn_Gu_rankOf0 slb_Gu_rankOf0 [] san_Gu_rankOf0 a1_Gu_rankOf0_4 = true := by decide +kernel
