theorem ke_M_over : chkE GX 3000 298 ct_M_over = true := by decide +kernel
