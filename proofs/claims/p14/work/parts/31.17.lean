theorem ka_M_goesOn_105_0 : chkA GX 3000 367 ct_M_goesOn 105 ca_M_goesOn_105_0 = true := by decide +kernel
theorem ka_M_goesOn_190_0 : chkA GX 3000 367 ct_M_goesOn 190 ca_M_goesOn_190_0 = true := by decide +kernel
theorem ka_M_goesOn_303_0 : chkA GX 3000 367 ct_M_goesOn 303 ca_M_goesOn_303_0 = true := by decide +kernel
theorem ka_M_goesOn_403_0 : chkA GX 3000 367 ct_M_goesOn 403 ca_M_goesOn_403_0 = true := by decide +kernel
