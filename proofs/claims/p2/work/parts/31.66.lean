theorem kre_M_isRule : chkE GXo 3000 374 ctr_M_isRule = true := by decide +kernel
