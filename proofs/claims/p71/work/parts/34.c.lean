theorem k2_person_r : chk2 GX pc_person DH 3000 r2_person = true := by decide +kernel
theorem k2_guarded_r : chk2 GX pc_guarded DH 3000 r2_guarded = true := by decide +kernel
theorem ks_Gu_wouldReveal0_r : chk1E GX DH 3000 248 sct_Gu_wouldReveal0 sw_Gu_wouldReveal0 shn_Gu_wouldReveal0 slb_Gu_wouldReveal0 [] san_Gu_wouldReveal0 1000000000 = true := by decide +kernel
theorem ks_Gu_wouldReveal0_0 : chk1A GX DH 3000 sct_Gu_wouldReveal0 sw_Gu_wouldReveal0 shn_Gu_wouldReveal0 slb_Gu_wouldReveal0 [] san_Gu_wouldReveal0 a1_Gu_wouldReveal0_0 = true := by decide +kernel
theorem ks_Gu_wouldReveal0_1 : chk1A GX DH 3000 sct_Gu_wouldReveal0 sw_Gu_wouldReveal0 shn_Gu_wouldReveal0 slb_Gu_wouldReveal0 [] san_Gu_wouldReveal0 a1_Gu_wouldReveal0_1 = true := by decide +kernel
theorem ks_Gu_wouldReveal0_2 : chk1A GX DH 3000 sct_Gu_wouldReveal0 sw_Gu_wouldReveal0 shn_Gu_wouldReveal0 slb_Gu_wouldReveal0 [] san_Gu_wouldReveal0 a1_Gu_wouldReveal0_2 = true := by decide +kernel
theorem ks_Gu_wouldReveal0_3 : chk1A GX DH 3000 sct_Gu_wouldReveal0 sw_Gu_wouldReveal0 shn_Gu_wouldReveal0 slb_Gu_wouldReveal0 [] san_Gu_wouldReveal0 a1_Gu_wouldReveal0_3 = true := by decide +kernel
theorem ks_Gu_wouldReveal0_4 : chk1A GX DH 3000 sct_Gu_wouldReveal0 sw_Gu_wouldReveal0 shn_Gu_wouldReveal0 slb_Gu_wouldReveal0 [] san_Gu_wouldReveal0 a1_Gu_wouldReveal0_4 = true := by decide +kernel
theorem ks_Gu_wouldReveal0_5 : chk1A GX DH 3000 sct_Gu_wouldReveal0 sw_Gu_wouldReveal0 shn_Gu_wouldReveal0 slb_Gu_wouldReveal0 [] san_Gu_wouldReveal0 a1_Gu_wouldReveal0_5 = true := by decide +kernel
theorem ks_Gu_wouldReveal0_6 : chk1A GX DH 3000 sct_Gu_wouldReveal0 sw_Gu_wouldReveal0 shn_Gu_wouldReveal0 slb_Gu_wouldReveal0 [] san_Gu_wouldReveal0 a1_Gu_wouldReveal0_6 = true := by decide +kernel
theorem ks_Gu_wouldReveal0_7 : chk1A GX DH 3000 sct_Gu_wouldReveal0 sw_Gu_wouldReveal0 shn_Gu_wouldReveal0 slb_Gu_wouldReveal0 [] san_Gu_wouldReveal0 a1_Gu_wouldReveal0_7 = true := by decide +kernel
theorem ks_Gu_wouldReveal0_8 : chk1A GX DH 3000 sct_Gu_wouldReveal0 sw_Gu_wouldReveal0 shn_Gu_wouldReveal0 slb_Gu_wouldReveal0 [] san_Gu_wouldReveal0 a1_Gu_wouldReveal0_8 = true := by decide +kernel
theorem ks_Gu_wouldReveal0_9 : chk1A GX DH 3000 sct_Gu_wouldReveal0 sw_Gu_wouldReveal0 shn_Gu_wouldReveal0 slb_Gu_wouldReveal0 [] san_Gu_wouldReveal0 a1_Gu_wouldReveal0_9 = true := by decide +kernel
theorem ks_Gu_wouldReveal0_10 : chk1A GX DH 3000 sct_Gu_wouldReveal0 sw_Gu_wouldReveal0 shn_Gu_wouldReveal0 slb_Gu_wouldReveal0 [] san_Gu_wouldReveal0 a1_Gu_wouldReveal0_10 = true := by decide +kernel
theorem ks_Gu_wouldReveal0_11 : chk1A GX DH 3000 sct_Gu_wouldReveal0 sw_Gu_wouldReveal0 shn_Gu_wouldReveal0 slb_Gu_wouldReveal0 [] san_Gu_wouldReveal0 a1_Gu_wouldReveal0_11 = true := by decide +kernel
