def dx_a : Ct := (ct_Po_readFeature.ar, (ct_Po_readFeature.kn, ([([.i 10 0], ([false, false, false, false, false, false, false, false, false, false, false], ([], ([], ([], ([], []))))))], (ct_Po_readFeature.w, (ct_Po_readFeature.lw, (ct_Po_readFeature.cut, (ct_Po_readFeature.inl, (ct_Po_readFeature.big, (ct_Po_readFeature.hint, ct_Po_readFeature.rg)))))))))
def dx_b : Ct := (ct_Po_readFeature.ar, (ct_Po_readFeature.kn, (ct_Po_readFeature.al, (ct_Po_readFeature.w, ([], (ct_Po_readFeature.cut, (ct_Po_readFeature.inl, (ct_Po_readFeature.big, (ct_Po_readFeature.hint, ct_Po_readFeature.rg)))))))))
def dx_c : Ct := (ct_Po_readFeature.ar, (ct_Po_readFeature.kn, ([([.i 10 0], ([false, false, false, false, false, false, false, false, false, false, false], ([], ([], ([], ([], []))))))], (ct_Po_readFeature.w, ([], (ct_Po_readFeature.cut, (ct_Po_readFeature.inl, (ct_Po_readFeature.big, (ct_Po_readFeature.hint, ct_Po_readFeature.rg)))))))))
def dx_w (n : Nat) : Bool := chkE GX n 89 dx_c
theorem dt_a : chkE GX 3000 89 dx_a = true := by decide +kernel
theorem dt_b : chkE GX 3000 89 dx_b = true := by decide +kernel
theorem dt_c : chkE GX 3000 89 dx_c = true := by decide +kernel
