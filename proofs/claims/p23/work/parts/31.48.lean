theorem kra_M_goesOn_1_24 : chkA GXo 3000 367 ctr_M_goesOn 1 car_M_goesOn_1_24 = true := by decide +kernel
theorem kra_M_goesOn_1_25 : chkA GXo 3000 367 ctr_M_goesOn 1 car_M_goesOn_1_25 = true := by decide +kernel
