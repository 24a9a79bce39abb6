theorem kra_M_goesOn_1_9 : chkA GXo 3000 367 ctr_M_goesOn 1 car_M_goesOn_1_9 = true := by decide +kernel
theorem kra_M_goesOn_1_10 : chkA GXo 3000 367 ctr_M_goesOn 1 car_M_goesOn_1_10 = true := by decide +kernel
