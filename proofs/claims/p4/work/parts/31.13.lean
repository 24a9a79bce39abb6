theorem ka_Ju_truthOf_33_16 : chkA GX 3000 138 ct_Ju_truthOf 33 ca_Ju_truthOf_33_16 = true := by decide +kernel
