theorem ke_M_pack : chkE GX 3000 292 ct_M_pack = true := by decide +kernel
