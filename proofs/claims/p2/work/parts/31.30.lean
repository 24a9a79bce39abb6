theorem kra_M_wanted_1_4 : chkA GXo 3000 362 ctr_M_wanted 1 car_M_wanted_1_4 = true := by decide +kernel
theorem kra_M_wanted_1_5 : chkA GXo 3000 362 ctr_M_wanted 1 car_M_wanted_1_5 = true := by decide +kernel
theorem kra_M_wanted_1_6 : chkA GXo 3000 362 ctr_M_wanted 1 car_M_wanted_1_6 = true := by decide +kernel
theorem kra_M_wanted_1_7 : chkA GXo 3000 362 ctr_M_wanted 1 car_M_wanted_1_7 = true := by decide +kernel
theorem kra_M_wanted_1_8 : chkA GXo 3000 362 ctr_M_wanted 1 car_M_wanted_1_8 = true := by decide +kernel
