theorem ke_Po_readBothWays : chkE GX 3000 99 ct_Po_readBothWays = true := by decide +kernel
theorem ka_Po_readBothWays_68_0 : chkA GX 3000 99 ct_Po_readBothWays 68 ca_Po_readBothWays_68_0 = true := by decide +kernel
theorem kk_Po_readBothWays : Chk GX 3000 99 ct_Po_readBothWays := ⟨ke_Po_readBothWays, fun pc as h => (show BT.AllP (fun pc as => ∀ a ∈ as, chkA GX 3000 99 ct_Po_readBothWays pc a = true) ct_Po_readBothWays.cut from ⟨⟨List.forall_mem_cons.mpr ⟨ka_Po_readBothWays_68_0, fun a ha => by cases ha⟩, trivial⟩, trivial⟩).at h⟩
