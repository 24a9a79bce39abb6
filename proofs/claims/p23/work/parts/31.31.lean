theorem kra_M_wanted_349_0 : chkA GXo 3000 362 ctr_M_wanted 349 car_M_wanted_349_0 = true := by decide +kernel
theorem kra_M_wanted_349_1 : chkA GXo 3000 362 ctr_M_wanted 349 car_M_wanted_349_1 = true := by decide +kernel
