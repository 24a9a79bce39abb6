theorem ke_M_over : chkE GX 3000 299 ct_M_over = true := by decide +kernel
