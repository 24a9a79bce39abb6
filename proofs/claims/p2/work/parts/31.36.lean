theorem kra_M_wanted_1_8 : chkA GXo 3000 362 ctr_M_wanted 1 car_M_wanted_1_8 = true := by decide +kernel
