theorem ks_Gu_wouldReveal0_12 : chk1A GX DH 3000 sct_Gu_wouldReveal0 sw_Gu_wouldReveal0 shn_Gu_wouldReveal0 slb_Gu_wouldReveal0 [] san_Gu_wouldReveal0 a1_Gu_wouldReveal0_12 = true := by decide +kernel
theorem ks_Gu_wouldReveal0_13 : chk1A GX DH 3000 sct_Gu_wouldReveal0 sw_Gu_wouldReveal0 shn_Gu_wouldReveal0 slb_Gu_wouldReveal0 [] san_Gu_wouldReveal0 a1_Gu_wouldReveal0_13 = true := by decide +kernel
theorem ks_M_link0_r : chk1E GX (dN DH) 3000 459 sct_M_link0 sw_M_link0 shn_M_link0 slb_M_link0 [] san_M_link0 1000000000 = true := by decide +kernel
theorem ks_M_link0_0 : chk1A GX (dN DH) 3000 sct_M_link0 sw_M_link0 shn_M_link0 slb_M_link0 [] san_M_link0 a1_M_link0_0 = true := by decide +kernel
theorem ks_M_link0_1 : chk1A GX (dN DH) 3000 sct_M_link0 sw_M_link0 shn_M_link0 slb_M_link0 [] san_M_link0 a1_M_link0_1 = true := by decide +kernel
theorem ks_M_link0_2 : chk1A GX (dN DH) 3000 sct_M_link0 sw_M_link0 shn_M_link0 slb_M_link0 [] san_M_link0 a1_M_link0_2 = true := by decide +kernel
theorem ks_M_link0_3 : chk1A GX (dN DH) 3000 sct_M_link0 sw_M_link0 shn_M_link0 slb_M_link0 [] san_M_link0 a1_M_link0_3 = true := by decide +kernel
theorem ks_M_link0_4 : chk1A GX (dN DH) 3000 sct_M_link0 sw_M_link0 shn_M_link0 slb_M_link0 [] san_M_link0 a1_M_link0_4 = true := by decide +kernel
theorem ks_M_link0_5 : chk1A GX (dN DH) 3000 sct_M_link0 sw_M_link0 shn_M_link0 slb_M_link0 [] san_M_link0 a1_M_link0_5 = true := by decide +kernel
theorem ks_M_link0_6 : chk1A GX (dN DH) 3000 sct_M_link0 sw_M_link0 shn_M_link0 slb_M_link0 [] san_M_link0 a1_M_link0_6 = true := by decide +kernel
theorem ks_M_link0_7 : chk1A GX (dN DH) 3000 sct_M_link0 sw_M_link0 shn_M_link0 slb_M_link0 [] san_M_link0 a1_M_link0_7 = true := by decide +kernel
theorem ks_M_link0_8 : chk1A GX (dN DH) 3000 sct_M_link0 sw_M_link0 shn_M_link0 slb_M_link0 [] san_M_link0 a1_M_link0_8 = true := by decide +kernel
theorem ks_M_link0_9 : chk1A GX (dN DH) 3000 sct_M_link0 sw_M_link0 shn_M_link0 slb_M_link0 [] san_M_link0 a1_M_link0_9 = true := by decide +kernel
theorem ks_M_link0_10 : chk1A GX (dN DH) 3000 sct_M_link0 sw_M_link0 shn_M_link0 slb_M_link0 [] san_M_link0 a1_M_link0_10 = true := by decide +kernel
theorem ks_M_know0_r : chk1E GX (dN DH) 3000 457 sct_M_know0 sw_M_know0 shn_M_know0 slb_M_know0 [] san_M_know0 1000000 = true := by decide +kernel
theorem ks_M_know0_0 : chk1A GX (dN DH) 3000 sct_M_know0 sw_M_know0 shn_M_know0 slb_M_know0 [] san_M_know0 a1_M_know0_0 = true := by decide +kernel
theorem ks_M_know0_1 : chk1A GX (dN DH) 3000 sct_M_know0 sw_M_know0 shn_M_know0 slb_M_know0 [] san_M_know0 a1_M_know0_1 = true := by decide +kernel
theorem ks_M_tellsOne0_r : chk1E GX (dN DH) 3000 462 sct_M_tellsOne0 sw_M_tellsOne0 shn_M_tellsOne0 slb_M_tellsOne0 [] san_M_tellsOne0 1000000000 = true := by decide +kernel
theorem ks_M_tellsOne0_0 : chk1A GX (dN DH) 3000 sct_M_tellsOne0 sw_M_tellsOne0 shn_M_tellsOne0 slb_M_tellsOne0 [] san_M_tellsOne0 a1_M_tellsOne0_0 = true := by decide +kernel
theorem ks_M_tellsOne0_1 : chk1A GX (dN DH) 3000 sct_M_tellsOne0 sw_M_tellsOne0 shn_M_tellsOne0 slb_M_tellsOne0 [] san_M_tellsOne0 a1_M_tellsOne0_1 = true := by decide +kernel
theorem ks_M_tellsOne0_2 : chk1A GX (dN DH) 3000 sct_M_tellsOne0 sw_M_tellsOne0 shn_M_tellsOne0 slb_M_tellsOne0 [] san_M_tellsOne0 a1_M_tellsOne0_2 = true := by decide +kernel
theorem ks_M_tellsOne0_3 : chk1A GX (dN DH) 3000 sct_M_tellsOne0 sw_M_tellsOne0 shn_M_tellsOne0 slb_M_tellsOne0 [] san_M_tellsOne0 a1_M_tellsOne0_3 = true := by decide +kernel
theorem ks_M_tellsOne0_4 : chk1A GX (dN DH) 3000 sct_M_tellsOne0 sw_M_tellsOne0 shn_M_tellsOne0 slb_M_tellsOne0 [] san_M_tellsOne0 a1_M_tellsOne0_4 = true := by decide +kernel
theorem ks_M_tellsOne0_5 : chk1A GX (dN DH) 3000 sct_M_tellsOne0 sw_M_tellsOne0 shn_M_tellsOne0 slb_M_tellsOne0 [] san_M_tellsOne0 a1_M_tellsOne0_5 = true := by decide +kernel
theorem ks_M_tellsOne0_6 : chk1A GX (dN DH) 3000 sct_M_tellsOne0 sw_M_tellsOne0 shn_M_tellsOne0 slb_M_tellsOne0 [] san_M_tellsOne0 a1_M_tellsOne0_6 = true := by decide +kernel
theorem ks_M_tellsOne0_7 : chk1A GX (dN DH) 3000 sct_M_tellsOne0 sw_M_tellsOne0 shn_M_tellsOne0 slb_M_tellsOne0 [] san_M_tellsOne0 a1_M_tellsOne0_7 = true := by decide +kernel
theorem ks_M_tellsOne0_8 : chk1A GX (dN DH) 3000 sct_M_tellsOne0 sw_M_tellsOne0 shn_M_tellsOne0 slb_M_tellsOne0 [] san_M_tellsOne0 a1_M_tellsOne0_8 = true := by decide +kernel
