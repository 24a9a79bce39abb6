theorem ke_M_ofWhole : chkE GX 3000 295 ct_M_ofWhole = true := by decide +kernel
theorem kk_M_ofWhole : Chk GX 3000 295 ct_M_ofWhole := ⟨ke_M_ofWhole, fun pc as h => (show BT.AllP (fun pc as => ∀ a ∈ as, chkA GX 3000 295 ct_M_ofWhole pc a = true) ct_M_ofWhole.cut from trivial).at h⟩
theorem ke_M_times : chkE GX 3000 296 ct_M_times = true := by decide +kernel
theorem ka_M_times_78_0 : chkA GX 3000 296 ct_M_times 78 ca_M_times_78_0 = true := by decide +kernel
theorem ka_M_times_115_0 : chkA GX 3000 296 ct_M_times 115 ca_M_times_115_0 = true := by decide +kernel
theorem ka_M_times_248_0 : chkA GX 3000 296 ct_M_times 248 ca_M_times_248_0 = true := by decide +kernel
theorem ka_M_times_272_0 : chkA GX 3000 296 ct_M_times 272 ca_M_times_272_0 = true := by decide +kernel
theorem kk_M_times : Chk GX 3000 296 ct_M_times := ⟨ke_M_times, fun pc as h => (show BT.AllP (fun pc as => ∀ a ∈ as, chkA GX 3000 296 ct_M_times pc a = true) ct_M_times.cut from ⟨⟨List.forall_mem_cons.mpr ⟨ka_M_times_78_0, fun a ha => by cases ha⟩, List.forall_mem_cons.mpr ⟨ka_M_times_115_0, fun a ha => by cases ha⟩, trivial⟩, ⟨List.forall_mem_cons.mpr ⟨ka_M_times_248_0, fun a ha => by cases ha⟩, List.forall_mem_cons.mpr ⟨ka_M_times_272_0, fun a ha => by cases ha⟩, trivial⟩, trivial⟩).at h⟩
theorem ke_M_plus : chkE GX 3000 297 ct_M_plus = true := by decide +kernel
theorem ka_M_plus_34_0 : chkA GX 3000 297 ct_M_plus 34 ca_M_plus_34_0 = true := by decide +kernel
theorem ka_M_plus_38_0 : chkA GX 3000 297 ct_M_plus 38 ca_M_plus_38_0 = true := by decide +kernel
theorem ka_M_plus_52_0 : chkA GX 3000 297 ct_M_plus 52 ca_M_plus_52_0 = true := by decide +kernel
theorem ka_M_plus_64_0 : chkA GX 3000 297 ct_M_plus 64 ca_M_plus_64_0 = true := by decide +kernel
theorem ka_M_plus_90_0 : chkA GX 3000 297 ct_M_plus 90 ca_M_plus_90_0 = true := by decide +kernel
theorem ka_M_plus_91_0 : chkA GX 3000 297 ct_M_plus 91 ca_M_plus_91_0 = true := by decide +kernel
theorem ka_M_plus_110_0 : chkA GX 3000 297 ct_M_plus 110 ca_M_plus_110_0 = true := by decide +kernel
theorem ka_M_plus_122_0 : chkA GX 3000 297 ct_M_plus 122 ca_M_plus_122_0 = true := by decide +kernel
theorem ka_M_plus_134_0 : chkA GX 3000 297 ct_M_plus 134 ca_M_plus_134_0 = true := by decide +kernel
theorem ka_M_plus_160_0 : chkA GX 3000 297 ct_M_plus 160 ca_M_plus_160_0 = true := by decide +kernel
theorem ka_M_plus_208_0 : chkA GX 3000 297 ct_M_plus 208 ca_M_plus_208_0 = true := by decide +kernel
theorem ka_M_plus_220_0 : chkA GX 3000 297 ct_M_plus 220 ca_M_plus_220_0 = true := by decide +kernel
theorem ka_M_plus_252_0 : chkA GX 3000 297 ct_M_plus 252 ca_M_plus_252_0 = true := by decide +kernel
theorem ka_M_plus_272_0 : chkA GX 3000 297 ct_M_plus 272 ca_M_plus_272_0 = true := by decide +kernel
theorem ka_M_plus_283_0 : chkA GX 3000 297 ct_M_plus 283 ca_M_plus_283_0 = true := by decide +kernel
theorem ka_M_plus_294_0 : chkA GX 3000 297 ct_M_plus 294 ca_M_plus_294_0 = true := by decide +kernel
theorem ka_M_plus_320_0 : chkA GX 3000 297 ct_M_plus 320 ca_M_plus_320_0 = true := by decide +kernel
theorem ka_M_plus_321_0 : chkA GX 3000 297 ct_M_plus 321 ca_M_plus_321_0 = true := by decide +kernel
theorem ka_M_plus_346_0 : chkA GX 3000 297 ct_M_plus 346 ca_M_plus_346_0 = true := by decide +kernel
theorem ka_M_plus_355_0 : chkA GX 3000 297 ct_M_plus 355 ca_M_plus_355_0 = true := by decide +kernel
theorem kk_M_plus : Chk GX 3000 297 ct_M_plus := ⟨ke_M_plus, fun pc as h => (show BT.AllP (fun pc as => ∀ a ∈ as, chkA GX 3000 297 ct_M_plus pc a = true) ct_M_plus.cut from ⟨⟨List.forall_mem_cons.mpr ⟨ka_M_plus_34_0, fun a ha => by cases ha⟩, List.forall_mem_cons.mpr ⟨ka_M_plus_38_0, fun a ha => by cases ha⟩, List.forall_mem_cons.mpr ⟨ka_M_plus_52_0, fun a ha => by cases ha⟩, List.forall_mem_cons.mpr ⟨ka_M_plus_64_0, fun a ha => by cases ha⟩, trivial⟩, ⟨List.forall_mem_cons.mpr ⟨ka_M_plus_90_0, fun a ha => by cases ha⟩, List.forall_mem_cons.mpr ⟨ka_M_plus_91_0, fun a ha => by cases ha⟩, List.forall_mem_cons.mpr ⟨ka_M_plus_110_0, fun a ha => by cases ha⟩, List.forall_mem_cons.mpr ⟨ka_M_plus_122_0, fun a ha => by cases ha⟩, trivial⟩, ⟨List.forall_mem_cons.mpr ⟨ka_M_plus_134_0, fun a ha => by cases ha⟩, List.forall_mem_cons.mpr ⟨ka_M_plus_160_0, fun a ha => by cases ha⟩, List.forall_mem_cons.mpr ⟨ka_M_plus_208_0, fun a ha => by cases ha⟩, List.forall_mem_cons.mpr ⟨ka_M_plus_220_0, fun a ha => by cases ha⟩, trivial⟩, ⟨List.forall_mem_cons.mpr ⟨ka_M_plus_252_0, fun a ha => by cases ha⟩, List.forall_mem_cons.mpr ⟨ka_M_plus_272_0, fun a ha => by cases ha⟩, List.forall_mem_cons.mpr ⟨ka_M_plus_283_0, fun a ha => by cases ha⟩, List.forall_mem_cons.mpr ⟨ka_M_plus_294_0, fun a ha => by cases ha⟩, trivial⟩, ⟨List.forall_mem_cons.mpr ⟨ka_M_plus_320_0, fun a ha => by cases ha⟩, List.forall_mem_cons.mpr ⟨ka_M_plus_321_0, fun a ha => by cases ha⟩, List.forall_mem_cons.mpr ⟨ka_M_plus_346_0, fun a ha => by cases ha⟩, List.forall_mem_cons.mpr ⟨ka_M_plus_355_0, fun a ha => by cases ha⟩, trivial⟩, trivial⟩).at h⟩
