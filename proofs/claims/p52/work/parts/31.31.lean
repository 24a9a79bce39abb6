theorem ka_M_gets_2_3 : chkA GX 3000 438 ct_M_gets 2 ca_M_gets_2_3 = true := by decide +kernel
theorem ka_M_gets_2_4 : chkA GX 3000 438 ct_M_gets 2 ca_M_gets_2_4 = true := by decide +kernel
theorem ka_M_gets_2_5 : chkA GX 3000 438 ct_M_gets 2 ca_M_gets_2_5 = true := by decide +kernel
theorem ka_M_gets_2_6 : chkA GX 3000 438 ct_M_gets 2 ca_M_gets_2_6 = true := by decide +kernel
theorem ka_M_gets_2_7 : chkA GX 3000 438 ct_M_gets 2 ca_M_gets_2_7 = true := by decide +kernel
