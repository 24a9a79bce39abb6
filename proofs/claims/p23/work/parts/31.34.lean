theorem kra_M_goesOn_1_3 : chkA GXo 3000 367 ctr_M_goesOn 1 car_M_goesOn_1_3 = true := by decide +kernel
theorem kra_M_goesOn_1_4 : chkA GXo 3000 367 ctr_M_goesOn 1 car_M_goesOn_1_4 = true := by decide +kernel
