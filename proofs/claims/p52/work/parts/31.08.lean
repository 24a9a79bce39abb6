theorem ka_Re_times_55_0 : chkA GX 3000 129 ct_Re_times 55 ca_Re_times_55_0 = true := by decide +kernel
theorem ka_Re_times_90_0 : chkA GX 3000 129 ct_Re_times 90 ca_Re_times_90_0 = true := by decide +kernel
theorem ka_Re_times_244_0 : chkA GX 3000 129 ct_Re_times 244 ca_Re_times_244_0 = true := by decide +kernel
theorem kk_Re_times : Chk GX 3000 129 ct_Re_times := ⟨ke_Re_times, fun pc as h => (show BT.AllP (fun pc as => ∀ a ∈ as, chkA GX 3000 129 ct_Re_times pc a = true) ct_Re_times.cut from ⟨⟨List.forall_mem_cons.mpr ⟨ka_Re_times_55_0, fun a ha => by cases ha⟩, trivial⟩, ⟨List.forall_mem_cons.mpr ⟨ka_Re_times_90_0, fun a ha => by cases ha⟩, trivial⟩, ⟨List.forall_mem_cons.mpr ⟨ka_Re_times_244_0, fun a ha => by cases ha⟩, trivial⟩, trivial⟩).at h⟩
theorem ke_Re_rest : chkE GX 3000 130 ct_Re_rest = true := by decide +kernel
theorem ka_Re_rest_86_0 : chkA GX 3000 130 ct_Re_rest 86 ca_Re_rest_86_0 = true := by decide +kernel
theorem kk_Re_rest : Chk GX 3000 130 ct_Re_rest := ⟨ke_Re_rest, fun pc as h => (show BT.AllP (fun pc as => ∀ a ∈ as, chkA GX 3000 130 ct_Re_rest pc a = true) ct_Re_rest.cut from ⟨⟨List.forall_mem_cons.mpr ⟨ka_Re_rest_86_0, fun a ha => by cases ha⟩, trivial⟩, trivial⟩).at h⟩
