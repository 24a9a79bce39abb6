theorem kra_Po_splitOff_34_0 : chkA GXo 3000 73 ctr_Po_splitOff 34 car_Po_splitOff_34_0 = true := by decide +kernel
theorem kr_Po_splitOff : Chk GXo 3000 73 ctr_Po_splitOff := ⟨kre_Po_splitOff, fun pc as h => (show BT.AllP (fun pc as => ∀ a ∈ as, chkA GXo 3000 73 ctr_Po_splitOff pc a = true) ctr_Po_splitOff.cut from ⟨⟨List.forall_mem_cons.mpr ⟨kra_Po_splitOff_34_0, fun a ha => by cases ha⟩, trivial⟩, trivial⟩).at h⟩
theorem kre_Po_split : chkE GXo 3000 74 ctr_Po_split = true := by decide +kernel
theorem kra_Po_split_9_0 : chkA GXo 3000 74 ctr_Po_split 9 car_Po_split_9_0 = true := by decide +kernel
theorem kr_Po_split : Chk GXo 3000 74 ctr_Po_split := ⟨kre_Po_split, fun pc as h => (show BT.AllP (fun pc as => ∀ a ∈ as, chkA GXo 3000 74 ctr_Po_split pc a = true) ctr_Po_split.cut from ⟨⟨List.forall_mem_cons.mpr ⟨kra_Po_split_9_0, fun a ha => by cases ha⟩, trivial⟩, trivial⟩).at h⟩
theorem kre_W_age : chkE GXo 3000 79 ctr_W_age = true := by decide +kernel
theorem kr_W_age : Chk GXo 3000 79 ctr_W_age := ⟨kre_W_age, fun pc as h => (show BT.AllP (fun pc as => ∀ a ∈ as, chkA GXo 3000 79 ctr_W_age pc a = true) ctr_W_age.cut from trivial).at h⟩
theorem kre_W_all : chkE GXo 3000 79 ctr_W_all = true := by decide +kernel
theorem kr_W_all : Chk GXo 3000 79 ctr_W_all := ⟨kre_W_all, fun pc as h => (show BT.AllP (fun pc as => ∀ a ∈ as, chkA GXo 3000 79 ctr_W_all pc a = true) ctr_W_all.cut from trivial).at h⟩
theorem kre_W_and : chkE GXo 3000 79 ctr_W_and = true := by decide +kernel
theorem kr_W_and : Chk GXo 3000 79 ctr_W_and := ⟨kre_W_and, fun pc as h => (show BT.AllP (fun pc as => ∀ a ∈ as, chkA GXo 3000 79 ctr_W_and pc a = true) ctr_W_and.cut from trivial).at h⟩
theorem kre_W_any : chkE GXo 3000 79 ctr_W_any = true := by decide +kernel
theorem kr_W_any : Chk GXo 3000 79 ctr_W_any := ⟨kre_W_any, fun pc as h => (show BT.AllP (fun pc as => ∀ a ∈ as, chkA GXo 3000 79 ctr_W_any pc a = true) ctr_W_any.cut from trivial).at h⟩
theorem kre_W_if : chkE GXo 3000 79 ctr_W_if = true := by decide +kernel
theorem kr_W_if : Chk GXo 3000 79 ctr_W_if := ⟨kre_W_if, fun pc as h => (show BT.AllP (fun pc as => ∀ a ∈ as, chkA GXo 3000 79 ctr_W_if pc a = true) ctr_W_if.cut from trivial).at h⟩
theorem kre_W_in : chkE GXo 3000 79 ctr_W_in = true := by decide +kernel
theorem kr_W_in : Chk GXo 3000 79 ctr_W_in := ⟨kre_W_in, fun pc as h => (show BT.AllP (fun pc as => ∀ a ∈ as, chkA GXo 3000 79 ctr_W_in pc a = true) ctr_W_in.cut from trivial).at h⟩
theorem kre_W_it : chkE GXo 3000 79 ctr_W_it = true := by decide +kernel
theorem kr_W_it : Chk GXo 3000 79 ctr_W_it := ⟨kre_W_it, fun pc as h => (show BT.AllP (fun pc as => ∀ a ∈ as, chkA GXo 3000 79 ctr_W_it pc a = true) ctr_W_it.cut from trivial).at h⟩
theorem kre_W_known : chkE GXo 3000 79 ctr_W_known = true := by decide +kernel
theorem kr_W_known : Chk GXo 3000 79 ctr_W_known := ⟨kre_W_known, fun pc as h => (show BT.AllP (fun pc as => ∀ a ∈ as, chkA GXo 3000 79 ctr_W_known pc a = true) ctr_W_known.cut from trivial).at h⟩
