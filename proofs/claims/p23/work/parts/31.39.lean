theorem kra_M_goesOn_1_11 : chkA GXo 3000 367 ctr_M_goesOn 1 car_M_goesOn_1_11 = true := by decide +kernel
theorem kra_M_goesOn_1_12 : chkA GXo 3000 367 ctr_M_goesOn 1 car_M_goesOn_1_12 = true := by decide +kernel
