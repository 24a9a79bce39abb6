theorem kra_M_goesOn_1_7 : chkA GXo 3000 367 ctr_M_goesOn 1 car_M_goesOn_1_7 = true := by decide +kernel
theorem kra_M_goesOn_1_8 : chkA GXo 3000 367 ctr_M_goesOn 1 car_M_goesOn_1_8 = true := by decide +kernel
