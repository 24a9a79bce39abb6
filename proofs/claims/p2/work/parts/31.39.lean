theorem kra_M_wanted_1_12 : chkA GXo 3000 362 ctr_M_wanted 1 car_M_wanted_1_12 = true := by decide +kernel
theorem kra_M_wanted_1_13 : chkA GXo 3000 362 ctr_M_wanted 1 car_M_wanted_1_13 = true := by decide +kernel
