theorem ks_Gu_wouldReveal1_6 : chk1A GX DH 3000 sct_Gu_wouldReveal1 sw_Gu_wouldReveal1 shn_Gu_wouldReveal0 slb_Gu_wouldReveal1 [] san_Gu_wouldReveal1 a1_Gu_wouldReveal1_6 = true := by decide +kernel
theorem ks_Gu_wouldReveal1_7 : chk1A GX DH 3000 sct_Gu_wouldReveal1 sw_Gu_wouldReveal1 shn_Gu_wouldReveal0 slb_Gu_wouldReveal1 [] san_Gu_wouldReveal1 a1_Gu_wouldReveal1_7 = true := by decide +kernel
theorem ks_Gu_wouldReveal1_8 : chk1A GX DH 3000 sct_Gu_wouldReveal1 sw_Gu_wouldReveal1 shn_Gu_wouldReveal0 slb_Gu_wouldReveal1 [] san_Gu_wouldReveal1 a1_Gu_wouldReveal1_8 = true := by decide +kernel
theorem ks_Gu_wouldReveal1_9 : chk1A GX DH 3000 sct_Gu_wouldReveal1 sw_Gu_wouldReveal1 shn_Gu_wouldReveal0 slb_Gu_wouldReveal1 [] san_Gu_wouldReveal1 a1_Gu_wouldReveal1_9 = true := by decide +kernel
theorem ks_Gu_wouldReveal1_10 : chk1A GX DH 3000 sct_Gu_wouldReveal1 sw_Gu_wouldReveal1 shn_Gu_wouldReveal0 slb_Gu_wouldReveal1 [] san_Gu_wouldReveal1 a1_Gu_wouldReveal1_10 = true := by decide +kernel
theorem ks_Gu_wouldReveal1_11 : chk1A GX DH 3000 sct_Gu_wouldReveal1 sw_Gu_wouldReveal1 shn_Gu_wouldReveal0 slb_Gu_wouldReveal1 [] san_Gu_wouldReveal1 a1_Gu_wouldReveal1_11 = true := by decide +kernel
theorem ks_Gu_wouldReveal1_12 : chk1A GX DH 3000 sct_Gu_wouldReveal1 sw_Gu_wouldReveal1 shn_Gu_wouldReveal0 slb_Gu_wouldReveal1 [] san_Gu_wouldReveal1 a1_Gu_wouldReveal1_12 = true := by decide +kernel
theorem ks_Gu_wouldReveal1_13 : chk1A GX DH 3000 sct_Gu_wouldReveal1 sw_Gu_wouldReveal1 shn_Gu_wouldReveal0 slb_Gu_wouldReveal1 [] san_Gu_wouldReveal1 a1_Gu_wouldReveal1_13 = true := by decide +kernel
theorem ks_M_link2_r : chk1E GX (dN DH) 3000 459 sct_M_link2 sw_M_link2 shn_M_link0 slb_M_link2 [] san_M_link2 1000000000 = true := by decide +kernel
theorem ks_M_link2_0 : chk1A GX (dN DH) 3000 sct_M_link2 sw_M_link2 shn_M_link0 slb_M_link2 [] san_M_link2 a1_M_link2_0 = true := by decide +kernel
theorem ks_M_link2_1 : chk1A GX (dN DH) 3000 sct_M_link2 sw_M_link2 shn_M_link0 slb_M_link2 [] san_M_link2 a1_M_link2_1 = true := by decide +kernel
theorem ks_M_link2_2 : chk1A GX (dN DH) 3000 sct_M_link2 sw_M_link2 shn_M_link0 slb_M_link2 [] san_M_link2 a1_M_link2_2 = true := by decide +kernel
theorem ks_M_link2_3 : chk1A GX (dN DH) 3000 sct_M_link2 sw_M_link2 shn_M_link0 slb_M_link2 [] san_M_link2 a1_M_link2_3 = true := by decide +kernel
