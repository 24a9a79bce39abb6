theorem ka_M_gets_2_8 : chkA GX 3000 438 ct_M_gets 2 ca_M_gets_2_8 = true := by decide +kernel
theorem ka_M_gets_2_9 : chkA GX 3000 438 ct_M_gets 2 ca_M_gets_2_9 = true := by decide +kernel
theorem ka_M_gets_2_10 : chkA GX 3000 438 ct_M_gets 2 ca_M_gets_2_10 = true := by decide +kernel
theorem ka_M_gets_2_11 : chkA GX 3000 438 ct_M_gets 2 ca_M_gets_2_11 = true := by decide +kernel
theorem ka_M_gets_2_12 : chkA GX 3000 438 ct_M_gets 2 ca_M_gets_2_12 = true := by decide +kernel
