theorem ke_M_ofWholeL9 : chkE GXL9 3000 295 ct_M_ofWhole = true := by decide +kernel
theorem kk_M_ofWholeL9 : Chk GXL9 3000 295 ct_M_ofWhole := ⟨ke_M_ofWholeL9, fun pc as h => (show BT.AllP (fun pc as => ∀ a ∈ as, chkA GXL9 3000 295 ct_M_ofWhole pc a = true) ct_M_ofWhole.cut from trivial).at h⟩
theorem ke_M_timesL9 : chkE GXL9 3000 296 ct_M_timesL9 = true := by decide +kernel
theorem ka_M_times_78_0L9 : chkA GXL9 3000 296 ct_M_timesL9 78 ca_M_times_78_0L9 = true := by decide +kernel
theorem ka_M_times_115_0L9 : chkA GXL9 3000 296 ct_M_timesL9 115 ca_M_times_115_0L9 = true := by decide +kernel
theorem ka_M_times_248_0L9 : chkA GXL9 3000 296 ct_M_timesL9 248 ca_M_times_248_0L9 = true := by decide +kernel
theorem ka_M_times_272_0L9 : chkA GXL9 3000 296 ct_M_timesL9 272 ca_M_times_272_0L9 = true := by decide +kernel
theorem kk_M_timesL9 : Chk GXL9 3000 296 ct_M_timesL9 := ⟨ke_M_timesL9, fun pc as h => (show BT.AllP (fun pc as => ∀ a ∈ as, chkA GXL9 3000 296 ct_M_timesL9 pc a = true) ct_M_timesL9.cut from ⟨⟨List.forall_mem_cons.mpr ⟨ka_M_times_78_0L9, fun a ha => by cases ha⟩, List.forall_mem_cons.mpr ⟨ka_M_times_115_0L9, fun a ha => by cases ha⟩, trivial⟩, ⟨List.forall_mem_cons.mpr ⟨ka_M_times_248_0L9, fun a ha => by cases ha⟩, List.forall_mem_cons.mpr ⟨ka_M_times_272_0L9, fun a ha => by cases ha⟩, trivial⟩, trivial⟩).at h⟩
theorem ke_M_plusL9 : chkE GXL9 3000 297 ct_M_plusL9 = true := by decide +kernel
theorem ka_M_plus_34_0L9 : chkA GXL9 3000 297 ct_M_plusL9 34 ca_M_plus_34_0L9 = true := by decide +kernel
theorem ka_M_plus_38_0L9 : chkA GXL9 3000 297 ct_M_plusL9 38 ca_M_plus_38_0L9 = true := by decide +kernel
theorem ka_M_plus_52_0L9 : chkA GXL9 3000 297 ct_M_plusL9 52 ca_M_plus_52_0L9 = true := by decide +kernel
theorem ka_M_plus_64_0L9 : chkA GXL9 3000 297 ct_M_plusL9 64 ca_M_plus_64_0L9 = true := by decide +kernel
theorem ka_M_plus_90_0L9 : chkA GXL9 3000 297 ct_M_plusL9 90 ca_M_plus_90_0L9 = true := by decide +kernel
theorem ka_M_plus_91_0L9 : chkA GXL9 3000 297 ct_M_plusL9 91 ca_M_plus_91_0L9 = true := by decide +kernel
theorem ka_M_plus_110_0L9 : chkA GXL9 3000 297 ct_M_plusL9 110 ca_M_plus_110_0L9 = true := by decide +kernel
theorem ka_M_plus_122_0L9 : chkA GXL9 3000 297 ct_M_plusL9 122 ca_M_plus_122_0L9 = true := by decide +kernel
theorem ka_M_plus_134_0L9 : chkA GXL9 3000 297 ct_M_plusL9 134 ca_M_plus_134_0L9 = true := by decide +kernel
theorem ka_M_plus_160_0L9 : chkA GXL9 3000 297 ct_M_plusL9 160 ca_M_plus_160_0L9 = true := by decide +kernel
theorem ka_M_plus_208_0L9 : chkA GXL9 3000 297 ct_M_plusL9 208 ca_M_plus_208_0L9 = true := by decide +kernel
theorem ka_M_plus_220_0L9 : chkA GXL9 3000 297 ct_M_plusL9 220 ca_M_plus_220_0L9 = true := by decide +kernel
theorem ka_M_plus_252_0L9 : chkA GXL9 3000 297 ct_M_plusL9 252 ca_M_plus_252_0L9 = true := by decide +kernel
theorem ka_M_plus_272_0L9 : chkA GXL9 3000 297 ct_M_plusL9 272 ca_M_plus_272_0L9 = true := by decide +kernel
theorem ka_M_plus_283_0L9 : chkA GXL9 3000 297 ct_M_plusL9 283 ca_M_plus_283_0L9 = true := by decide +kernel
theorem ka_M_plus_294_0L9 : chkA GXL9 3000 297 ct_M_plusL9 294 ca_M_plus_294_0L9 = true := by decide +kernel
theorem ka_M_plus_320_0L9 : chkA GXL9 3000 297 ct_M_plusL9 320 ca_M_plus_320_0L9 = true := by decide +kernel
theorem ka_M_plus_321_0L9 : chkA GXL9 3000 297 ct_M_plusL9 321 ca_M_plus_321_0L9 = true := by decide +kernel
theorem ka_M_plus_346_0L9 : chkA GXL9 3000 297 ct_M_plusL9 346 ca_M_plus_346_0L9 = true := by decide +kernel
theorem ka_M_plus_355_0L9 : chkA GXL9 3000 297 ct_M_plusL9 355 ca_M_plus_355_0L9 = true := by decide +kernel
theorem kk_M_plusL9 : Chk GXL9 3000 297 ct_M_plusL9 := ⟨ke_M_plusL9, fun pc as h => (show BT.AllP (fun pc as => ∀ a ∈ as, chkA GXL9 3000 297 ct_M_plusL9 pc a = true) ct_M_plusL9.cut from ⟨⟨List.forall_mem_cons.mpr ⟨ka_M_plus_34_0L9, fun a ha => by cases ha⟩, List.forall_mem_cons.mpr ⟨ka_M_plus_38_0L9, fun a ha => by cases ha⟩, List.forall_mem_cons.mpr ⟨ka_M_plus_52_0L9, fun a ha => by cases ha⟩, List.forall_mem_cons.mpr ⟨ka_M_plus_64_0L9, fun a ha => by cases ha⟩, trivial⟩, ⟨List.forall_mem_cons.mpr ⟨ka_M_plus_90_0L9, fun a ha => by cases ha⟩, List.forall_mem_cons.mpr ⟨ka_M_plus_91_0L9, fun a ha => by cases ha⟩, List.forall_mem_cons.mpr ⟨ka_M_plus_110_0L9, fun a ha => by cases ha⟩, List.forall_mem_cons.mpr ⟨ka_M_plus_122_0L9, fun a ha => by cases ha⟩, trivial⟩, ⟨List.forall_mem_cons.mpr ⟨ka_M_plus_134_0L9, fun a ha => by cases ha⟩, List.forall_mem_cons.mpr ⟨ka_M_plus_160_0L9, fun a ha => by cases ha⟩, List.forall_mem_cons.mpr ⟨ka_M_plus_208_0L9, fun a ha => by cases ha⟩, List.forall_mem_cons.mpr ⟨ka_M_plus_220_0L9, fun a ha => by cases ha⟩, trivial⟩, ⟨List.forall_mem_cons.mpr ⟨ka_M_plus_252_0L9, fun a ha => by cases ha⟩, List.forall_mem_cons.mpr ⟨ka_M_plus_272_0L9, fun a ha => by cases ha⟩, List.forall_mem_cons.mpr ⟨ka_M_plus_283_0L9, fun a ha => by cases ha⟩, List.forall_mem_cons.mpr ⟨ka_M_plus_294_0L9, fun a ha => by cases ha⟩, trivial⟩, ⟨List.forall_mem_cons.mpr ⟨ka_M_plus_320_0L9, fun a ha => by cases ha⟩, List.forall_mem_cons.mpr ⟨ka_M_plus_321_0L9, fun a ha => by cases ha⟩, List.forall_mem_cons.mpr ⟨ka_M_plus_346_0L9, fun a ha => by cases ha⟩, List.forall_mem_cons.mpr ⟨ka_M_plus_355_0L9, fun a ha => by cases ha⟩, trivial⟩, trivial⟩).at h⟩
