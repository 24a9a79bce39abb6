theorem ka_Ju_truthOf_33_17 : chkA GX 3000 138 ct_Ju_truthOf 33 ca_Ju_truthOf_33_17 = true := by decide +kernel
