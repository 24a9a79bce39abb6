theorem kra_M_wanted_1_9 : chkA GXo 3000 362 ctr_M_wanted 1 car_M_wanted_1_9 = true := by decide +kernel
theorem kra_M_wanted_1_10 : chkA GXo 3000 362 ctr_M_wanted 1 car_M_wanted_1_10 = true := by decide +kernel
theorem kra_M_wanted_1_11 : chkA GXo 3000 362 ctr_M_wanted 1 car_M_wanted_1_11 = true := by decide +kernel
theorem kra_M_wanted_1_12 : chkA GXo 3000 362 ctr_M_wanted 1 car_M_wanted_1_12 = true := by decide +kernel
