theorem kra_M_goesOn_1_21 : chkA GXo 3000 367 ctr_M_goesOn 1 car_M_goesOn_1_21 = true := by decide +kernel
theorem kra_M_goesOn_1_22 : chkA GXo 3000 367 ctr_M_goesOn 1 car_M_goesOn_1_22 = true := by decide +kernel
theorem kra_M_goesOn_1_23 : chkA GXo 3000 367 ctr_M_goesOn 1 car_M_goesOn_1_23 = true := by decide +kernel
