theorem kra_M_goesOn_1_6 : chkA GXo 3000 367 ctr_M_goesOn 1 car_M_goesOn_1_6 = true := by decide +kernel
