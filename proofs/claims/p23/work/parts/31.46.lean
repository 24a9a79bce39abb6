theorem kra_M_goesOn_1_19 : chkA GXo 3000 367 ctr_M_goesOn 1 car_M_goesOn_1_19 = true := by decide +kernel
theorem kra_M_goesOn_1_20 : chkA GXo 3000 367 ctr_M_goesOn 1 car_M_goesOn_1_20 = true := by decide +kernel
