theorem ks_M_tellsOne1_9 : chk1A GX (dN DH) 3000 sct_M_tellsOne1 sw_M_tellsOne1 shn_M_tellsOne0 slb_M_tellsOne1 [] san_M_tellsOne1 a1_M_tellsOne1_9 = true := by decide +kernel
theorem ks_M_tellsOne1_10 : chk1A GX (dN DH) 3000 sct_M_tellsOne1 sw_M_tellsOne1 shn_M_tellsOne0 slb_M_tellsOne1 [] san_M_tellsOne1 a1_M_tellsOne1_10 = true := by decide +kernel
theorem ks_M_tellsOne1_11 : chk1A GX (dN DH) 3000 sct_M_tellsOne1 sw_M_tellsOne1 shn_M_tellsOne0 slb_M_tellsOne1 [] san_M_tellsOne1 a1_M_tellsOne1_11 = true := by decide +kernel
theorem ks_M_tellsOne1_12 : chk1A GX (dN DH) 3000 sct_M_tellsOne1 sw_M_tellsOne1 shn_M_tellsOne0 slb_M_tellsOne1 [] san_M_tellsOne1 a1_M_tellsOne1_12 = true := by decide +kernel
theorem ks_M_tellsOne1_13 : chk1A GX (dN DH) 3000 sct_M_tellsOne1 sw_M_tellsOne1 shn_M_tellsOne0 slb_M_tellsOne1 [] san_M_tellsOne1 a1_M_tellsOne1_13 = true := by decide +kernel
theorem ks_M_tellsOne1_14 : chk1A GX (dN DH) 3000 sct_M_tellsOne1 sw_M_tellsOne1 shn_M_tellsOne0 slb_M_tellsOne1 [] san_M_tellsOne1 a1_M_tellsOne1_14 = true := by decide +kernel
theorem ks_M_tellsOne1_15 : chk1A GX (dN DH) 3000 sct_M_tellsOne1 sw_M_tellsOne1 shn_M_tellsOne0 slb_M_tellsOne1 [] san_M_tellsOne1 a1_M_tellsOne1_15 = true := by decide +kernel
theorem k2_sum_r : chk2 GX pc_sum DH 3000 r2_sum = true := by decide +kernel
theorem k2_sum_0 : chk2 GX pc_sum DH 3000 a2_sum_0 = true := by decide +kernel
theorem k2_sum_1 : chk2 GX pc_sum DH 3000 a2_sum_1 = true := by decide +kernel
theorem k2_sum_2 : chk2 GX pc_sum DH 3000 a2_sum_2 = true := by decide +kernel
theorem k2_sum_3 : chk2 GX pc_sum DH 3000 a2_sum_3 = true := by decide +kernel
theorem k2_sum_4 : chk2 GX pc_sum DH 3000 a2_sum_4 = true := by decide +kernel
theorem k2_sum_5 : chk2 GX pc_sum DH 3000 a2_sum_5 = true := by decide +kernel
theorem k2_sum_6 : chk2 GX pc_sum DH 3000 a2_sum_6 = true := by decide +kernel
theorem k2_sum_7 : chk2 GX pc_sum DH 3000 a2_sum_7 = true := by decide +kernel
theorem k2_sum_8 : chk2 GX pc_sum DH 3000 a2_sum_8 = true := by decide +kernel
theorem ks_Gu_wouldReveal1_r : chk1E GX DH 3000 248 sct_Gu_wouldReveal1 sw_Gu_wouldReveal1 shn_Gu_wouldReveal0 slb_Gu_wouldReveal1 [] san_Gu_wouldReveal1 1000000000 = true := by decide +kernel
theorem ks_Gu_wouldReveal1_0 : chk1A GX DH 3000 sct_Gu_wouldReveal1 sw_Gu_wouldReveal1 shn_Gu_wouldReveal0 slb_Gu_wouldReveal1 [] san_Gu_wouldReveal1 a1_Gu_wouldReveal1_0 = true := by decide +kernel
theorem ks_Gu_wouldReveal1_1 : chk1A GX DH 3000 sct_Gu_wouldReveal1 sw_Gu_wouldReveal1 shn_Gu_wouldReveal0 slb_Gu_wouldReveal1 [] san_Gu_wouldReveal1 a1_Gu_wouldReveal1_1 = true := by decide +kernel
theorem ks_Gu_wouldReveal1_2 : chk1A GX DH 3000 sct_Gu_wouldReveal1 sw_Gu_wouldReveal1 shn_Gu_wouldReveal0 slb_Gu_wouldReveal1 [] san_Gu_wouldReveal1 a1_Gu_wouldReveal1_2 = true := by decide +kernel
theorem ks_Gu_wouldReveal1_3 : chk1A GX DH 3000 sct_Gu_wouldReveal1 sw_Gu_wouldReveal1 shn_Gu_wouldReveal0 slb_Gu_wouldReveal1 [] san_Gu_wouldReveal1 a1_Gu_wouldReveal1_3 = true := by decide +kernel
theorem ks_Gu_wouldReveal1_4 : chk1A GX DH 3000 sct_Gu_wouldReveal1 sw_Gu_wouldReveal1 shn_Gu_wouldReveal0 slb_Gu_wouldReveal1 [] san_Gu_wouldReveal1 a1_Gu_wouldReveal1_4 = true := by decide +kernel
theorem ks_Gu_wouldReveal1_5 : chk1A GX DH 3000 sct_Gu_wouldReveal1 sw_Gu_wouldReveal1 shn_Gu_wouldReveal0 slb_Gu_wouldReveal1 [] san_Gu_wouldReveal1 a1_Gu_wouldReveal1_5 = true := by decide +kernel
