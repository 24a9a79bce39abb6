theorem ke_M_ofWhole : chkE GX 3000 295 ct_M_ofWhole = true := by decide +kernel
theorem kk_M_ofWhole : Chk GX 3000 295 ct_M_ofWhole := ⟨ke_M_ofWhole, fun pc as h => (show BT.AllP (fun pc as => ∀ a ∈ as, chkA GX 3000 295 ct_M_ofWhole pc a = true) ct_M_ofWhole.cut from trivial).at h⟩
theorem ke_M_times : chkE GX 3000 296 ct_M_times = true := by decide +kernel
theorem ka_M_times_78_0 : chkA GX 3000 296 ct_M_times 78 ca_M_times_78_0 = true := by decide +kernel
theorem ka_M_times_115_0 : chkA GX 3000 296 ct_M_times 115 ca_M_times_115_0 = true := by decide +kernel
theorem ka_M_times_248_0 : chkA GX 3000 296 ct_M_times 248 ca_M_times_248_0 = true := by decide +kernel
theorem ka_M_times_272_0 : chkA GX 3000 296 ct_M_times 272 ca_M_times_272_0 = true := by decide +kernel
theorem kk_M_times : Chk GX 3000 296 ct_M_times := ⟨ke_M_times, fun pc as h => (show BT.AllP (fun pc as => ∀ a ∈ as, chkA GX 3000 296 ct_M_times pc a = true) ct_M_times.cut from ⟨⟨List.forall_mem_cons.mpr ⟨ka_M_times_78_0, fun a ha => by cases ha⟩, List.forall_mem_cons.mpr ⟨ka_M_times_115_0, fun a ha => by cases ha⟩, trivial⟩, ⟨List.forall_mem_cons.mpr ⟨ka_M_times_248_0, fun a ha => by cases ha⟩, List.forall_mem_cons.mpr ⟨ka_M_times_272_0, fun a ha => by cases ha⟩, trivial⟩, trivial⟩).at h⟩
theorem ke_M_plus : chkE GX 3000 297 ct_M_plus = true := by decide +kernel
theorem ka_M_plus_34_0 : chkA GX 3000 297 ct_M_plus 34 ca_M_plus_34_0 = true := by decide +kernel
theorem ka_M_plus_38_0 : chkA GX 3000 297 ct_M_plus 38 ca_M_plus_38_0 = true := by decide +kernel
theorem ka_M_plus_52_0 : chkA GX 3000 297 ct_M_plus 52 ca_M_plus_52_0 = true := by decide +kernel
theorem ka_M_plus_64_0 : chkA GX 3000 297 ct_M_plus 64 ca_M_plus_64_0 = true := by decide +kernel
theorem ka_M_plus_90_0 : chkA GX 3000 297 ct_M_plus 90 ca_M_plus_90_0 = true := by decide +kernel
