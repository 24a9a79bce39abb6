theorem kra_M_goesOn_1_0 : chkA GXo 3000 367 ctr_M_goesOn 1 car_M_goesOn_1_0 = true := by decide +kernel
theorem kra_M_goesOn_1_1 : chkA GXo 3000 367 ctr_M_goesOn 1 car_M_goesOn_1_1 = true := by decide +kernel
theorem kra_M_goesOn_1_2 : chkA GXo 3000 367 ctr_M_goesOn 1 car_M_goesOn_1_2 = true := by decide +kernel
