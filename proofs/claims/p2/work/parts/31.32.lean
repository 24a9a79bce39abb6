theorem kra_M_wanted_1_2 : chkA GXo 3000 362 ctr_M_wanted 1 car_M_wanted_1_2 = true := by decide +kernel
theorem kra_M_wanted_1_3 : chkA GXo 3000 362 ctr_M_wanted 1 car_M_wanted_1_3 = true := by decide +kernel
theorem kra_M_wanted_1_4 : chkA GXo 3000 362 ctr_M_wanted 1 car_M_wanted_1_4 = true := by decide +kernel
