theorem kra_M_goesOn_1_17 : chkA GXo 3000 367 ctr_M_goesOn 1 car_M_goesOn_1_17 = true := by decide +kernel
