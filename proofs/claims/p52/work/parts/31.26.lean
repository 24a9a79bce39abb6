theorem ke_M_says : chkE GX 3000 386 ct_M_says = true := by decide +kernel
