theorem ke_M_goesOn : chkE GX 3000 367 ct_M_goesOn = true := by decide +kernel
theorem ka_M_goesOn_105_0 : chkA GX 3000 367 ct_M_goesOn 105 ca_M_goesOn_105_0 = true := by decide +kernel
