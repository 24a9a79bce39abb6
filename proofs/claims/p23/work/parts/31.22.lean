theorem kre_Po_readFeature : chkE GXo 3000 89 ctr_Po_readFeature = true := by decide +kernel
