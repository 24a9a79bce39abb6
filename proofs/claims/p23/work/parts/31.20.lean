theorem kre_Po_readAct : chkE GXo 3000 85 ctr_Po_readAct = true := by decide +kernel
