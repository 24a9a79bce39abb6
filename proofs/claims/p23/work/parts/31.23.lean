theorem kr_Po_readFeature : Chk GXo 3000 89 ctr_Po_readFeature := ⟨kre_Po_readFeature, fun pc as h => (show BT.AllP (fun pc as => ∀ a ∈ as, chkA GXo 3000 89 ctr_Po_readFeature pc a = true) ctr_Po_readFeature.cut from trivial).at h⟩
theorem kre_Po_readItem : chkE GXo 3000 91 ctr_Po_readItem = true := by decide +kernel
theorem kr_Po_readItem : Chk GXo 3000 91 ctr_Po_readItem := ⟨kre_Po_readItem, fun pc as h => (show BT.AllP (fun pc as => ∀ a ∈ as, chkA GXo 3000 91 ctr_Po_readItem pc a = true) ctr_Po_readItem.cut from trivial).at h⟩
theorem kre_Po_readNested : chkE GXo 3000 92 ctr_Po_readNested = true := by decide +kernel
theorem kr_Po_readNested : Chk GXo 3000 92 ctr_Po_readNested := ⟨kre_Po_readNested, fun pc as h => (show BT.AllP (fun pc as => ∀ a ∈ as, chkA GXo 3000 92 ctr_Po_readNested pc a = true) ctr_Po_readNested.cut from trivial).at h⟩
theorem kre_Po_readTerm : chkE GXo 3000 93 ctr_Po_readTerm = true := by decide +kernel
theorem kr_Po_readTerm : Chk GXo 3000 93 ctr_Po_readTerm := ⟨kre_Po_readTerm, fun pc as h => (show BT.AllP (fun pc as => ∀ a ∈ as, chkA GXo 3000 93 ctr_Po_readTerm pc a = true) ctr_Po_readTerm.cut from trivial).at h⟩
theorem kre_Po_readProduct : chkE GXo 3000 94 ctr_Po_readProduct = true := by decide +kernel
theorem kra_Po_readProduct_12_0 : chkA GXo 3000 94 ctr_Po_readProduct 12 car_Po_readProduct_12_0 = true := by decide +kernel
theorem kr_Po_readProduct : Chk GXo 3000 94 ctr_Po_readProduct := ⟨kre_Po_readProduct, fun pc as h => (show BT.AllP (fun pc as => ∀ a ∈ as, chkA GXo 3000 94 ctr_Po_readProduct pc a = true) ctr_Po_readProduct.cut from ⟨⟨List.forall_mem_cons.mpr ⟨kra_Po_readProduct_12_0, fun a ha => by cases ha⟩, trivial⟩, trivial⟩).at h⟩
theorem kre_Po_readSum : chkE GXo 3000 95 ctr_Po_readSum = true := by decide +kernel
theorem kra_Po_readSum_12_0 : chkA GXo 3000 95 ctr_Po_readSum 12 car_Po_readSum_12_0 = true := by decide +kernel
theorem kr_Po_readSum : Chk GXo 3000 95 ctr_Po_readSum := ⟨kre_Po_readSum, fun pc as h => (show BT.AllP (fun pc as => ∀ a ∈ as, chkA GXo 3000 95 ctr_Po_readSum pc a = true) ctr_Po_readSum.cut from ⟨⟨List.forall_mem_cons.mpr ⟨kra_Po_readSum_12_0, fun a ha => by cases ha⟩, trivial⟩, trivial⟩).at h⟩
