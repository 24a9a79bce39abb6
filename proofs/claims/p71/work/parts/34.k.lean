theorem ks_Gu_rankOf0_5 : chk1A GX DH 3000 sct_Gu_rankOf0 sw_Gu_rankOf0 shn_Gu_rankOf0 slb_Gu_rankOf0 [] san_Gu_rankOf0 a1_Gu_rankOf0_5 = true := by decide +kernel
theorem ks_Gu_rankOf0_6 : chk1A GX DH 3000 sct_Gu_rankOf0 sw_Gu_rankOf0 shn_Gu_rankOf0 slb_Gu_rankOf0 [] san_Gu_rankOf0 a1_Gu_rankOf0_6 = true := by decide +kernel
theorem ks_M_link7_r : chk1E GX (dN DH) 3000 459 sct_M_link7 sw_M_link7 shn_M_link0 slb_M_link7 [] san_M_link7 1000000000 = true := by decide +kernel
theorem ks_M_link7_0 : chk1A GX (dN DH) 3000 sct_M_link7 sw_M_link7 shn_M_link0 slb_M_link7 [] san_M_link7 a1_M_link7_0 = true := by decide +kernel
theorem ks_M_link7_1 : chk1A GX (dN DH) 3000 sct_M_link7 sw_M_link7 shn_M_link0 slb_M_link7 [] san_M_link7 a1_M_link7_1 = true := by decide +kernel
theorem ks_M_link7_2 : chk1A GX (dN DH) 3000 sct_M_link7 sw_M_link7 shn_M_link0 slb_M_link7 [] san_M_link7 a1_M_link7_2 = true := by decide +kernel
theorem ks_M_link7_3 : chk1A GX (dN DH) 3000 sct_M_link7 sw_M_link7 shn_M_link0 slb_M_link7 [] san_M_link7 a1_M_link7_3 = true := by decide +kernel
theorem ks_M_link7_4 : chk1A GX (dN DH) 3000 sct_M_link7 sw_M_link7 shn_M_link0 slb_M_link7 [] san_M_link7 a1_M_link7_4 = true := by decide +kernel
theorem ks_M_link7_5 : chk1A GX (dN DH) 3000 sct_M_link7 sw_M_link7 shn_M_link0 slb_M_link7 [] san_M_link7 a1_M_link7_5 = true := by decide +kernel
theorem ks_M_link7_6 : chk1A GX (dN DH) 3000 sct_M_link7 sw_M_link7 shn_M_link0 slb_M_link7 [] san_M_link7 a1_M_link7_6 = true := by decide +kernel
theorem ks_M_link7_7 : chk1A GX (dN DH) 3000 sct_M_link7 sw_M_link7 shn_M_link0 slb_M_link7 [] san_M_link7 a1_M_link7_7 = true := by decide +kernel
theorem ks_M_link7_8 : chk1A GX (dN DH) 3000 sct_M_link7 sw_M_link7 shn_M_link0 slb_M_link7 [] san_M_link7 a1_M_link7_8 = true := by decide +kernel
theorem ks_M_link7_9 : chk1A GX (dN DH) 3000 sct_M_link7 sw_M_link7 shn_M_link0 slb_M_link7 [] san_M_link7 a1_M_link7_9 = true := by decide +kernel
theorem ks_M_link7_10 : chk1A GX (dN DH) 3000 sct_M_link7 sw_M_link7 shn_M_link0 slb_M_link7 [] san_M_link7 a1_M_link7_10 = true := by decide +kernel
theorem ks_M_link8_r : chk1E GX (dN DH) 3000 459 sct_M_link8 sw_M_link8 shn_M_link0 slb_M_link8 [] san_M_link8 1000000000 = true := by decide +kernel
theorem ks_M_link8_0 : chk1A GX (dN DH) 3000 sct_M_link8 sw_M_link8 shn_M_link0 slb_M_link8 [] san_M_link8 a1_M_link8_0 = true := by decide +kernel
theorem ks_M_link8_1 : chk1A GX (dN DH) 3000 sct_M_link8 sw_M_link8 shn_M_link0 slb_M_link8 [] san_M_link8 a1_M_link8_1 = true := by decide +kernel
theorem ks_M_link8_2 : chk1A GX (dN DH) 3000 sct_M_link8 sw_M_link8 shn_M_link0 slb_M_link8 [] san_M_link8 a1_M_link8_2 = true := by decide +kernel
theorem ks_M_link8_3 : chk1A GX (dN DH) 3000 sct_M_link8 sw_M_link8 shn_M_link0 slb_M_link8 [] san_M_link8 a1_M_link8_3 = true := by decide +kernel
theorem ks_M_link8_4 : chk1A GX (dN DH) 3000 sct_M_link8 sw_M_link8 shn_M_link0 slb_M_link8 [] san_M_link8 a1_M_link8_4 = true := by decide +kernel
theorem ks_M_link8_5 : chk1A GX (dN DH) 3000 sct_M_link8 sw_M_link8 shn_M_link0 slb_M_link8 [] san_M_link8 a1_M_link8_5 = true := by decide +kernel
theorem ks_M_link8_6 : chk1A GX (dN DH) 3000 sct_M_link8 sw_M_link8 shn_M_link0 slb_M_link8 [] san_M_link8 a1_M_link8_6 = true := by decide +kernel
theorem ks_M_link8_7 : chk1A GX (dN DH) 3000 sct_M_link8 sw_M_link8 shn_M_link0 slb_M_link8 [] san_M_link8 a1_M_link8_7 = true := by decide +kernel
theorem ks_M_link8_8 : chk1A GX (dN DH) 3000 sct_M_link8 sw_M_link8 shn_M_link0 slb_M_link8 [] san_M_link8 a1_M_link8_8 = true := by decide +kernel
theorem ks_M_link8_9 : chk1A GX (dN DH) 3000 sct_M_link8 sw_M_link8 shn_M_link0 slb_M_link8 [] san_M_link8 a1_M_link8_9 = true := by decide +kernel
theorem ks_M_link8_10 : chk1A GX (dN DH) 3000 sct_M_link8 sw_M_link8 shn_M_link0 slb_M_link8 [] san_M_link8 a1_M_link8_10 = true := by decide +kernel
theorem ks_M_rankWith0_r : chk1E GX (dN DH) 3000 461 sct_M_rankWith0 sw_M_rankWith0 shn_M_rankWith0 slb_M_rankWith0 [] san_M_rankWith0 1000000000 = true := by decide +kernel
theorem ks_M_rankWith0_0 : chk1A GX (dN DH) 3000 sct_M_rankWith0 sw_M_rankWith0 shn_M_rankWith0 slb_M_rankWith0 [] san_M_rankWith0 a1_M_rankWith0_0 = true := by decide +kernel
theorem ks_M_rankWith0_1 : chk1A GX (dN DH) 3000 sct_M_rankWith0 sw_M_rankWith0 shn_M_rankWith0 slb_M_rankWith0 [] san_M_rankWith0 a1_M_rankWith0_1 = true := by decide +kernel
theorem ks_M_rankWith0_2 : chk1A GX (dN DH) 3000 sct_M_rankWith0 sw_M_rankWith0 shn_M_rankWith0 slb_M_rankWith0 [] san_M_rankWith0 a1_M_rankWith0_2 = true := by decide +kernel
theorem ks_M_rankWith0_3 : chk1A GX (dN DH) 3000 sct_M_rankWith0 sw_M_rankWith0 shn_M_rankWith0 slb_M_rankWith0 [] san_M_rankWith0 a1_M_rankWith0_3 = true := by decide +kernel
theorem ks_M_rankWith0_4 : chk1A GX (dN DH) 3000 sct_M_rankWith0 sw_M_rankWith0 shn_M_rankWith0 slb_M_rankWith0 [] san_M_rankWith0 a1_M_rankWith0_4 = true := by decide +kernel
theorem ks_M_rankWith0_5 : chk1A GX (dN DH) 3000 sct_M_rankWith0 sw_M_rankWith0 shn_M_rankWith0 slb_M_rankWith0 [] san_M_rankWith0 a1_M_rankWith0_5 = true := by decide +kernel
theorem ks_M_rankWith0_6 : chk1A GX (dN DH) 3000 sct_M_rankWith0 sw_M_rankWith0 shn_M_rankWith0 slb_M_rankWith0 [] san_M_rankWith0 a1_M_rankWith0_6 = true := by decide +kernel
