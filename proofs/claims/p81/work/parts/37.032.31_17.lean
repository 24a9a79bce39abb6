theorem ke_M_goesOn : chkE GXL9 3000 367 ct_M_goesOnL9 = true := by decide +kernel
theorem ka_M_goesOn_105_0 : chkA GXL9 3000 367 ct_M_goesOnL9 105 ca_M_goesOn_105_0L9 = true := by decide +kernel
