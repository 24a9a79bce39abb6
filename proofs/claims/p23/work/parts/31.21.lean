theorem kr_Po_readAct : Chk GXo 3000 85 ctr_Po_readAct := ⟨kre_Po_readAct, fun pc as h => (show BT.AllP (fun pc as => ∀ a ∈ as, chkA GXo 3000 85 ctr_Po_readAct pc a = true) ctr_Po_readAct.cut from trivial).at h⟩
theorem kre_S_37 : chkE GXo 3000 86 ctr_S_37 = true := by decide +kernel
theorem kr_S_37 : Chk GXo 3000 86 ctr_S_37 := ⟨kre_S_37, fun pc as h => (show BT.AllP (fun pc as => ∀ a ∈ as, chkA GXo 3000 86 ctr_S_37 pc a = true) ctr_S_37.cut from trivial).at h⟩
theorem kre_S_40 : chkE GXo 3000 86 ctr_S_40 = true := by decide +kernel
theorem kr_S_40 : Chk GXo 3000 86 ctr_S_40 := ⟨kre_S_40, fun pc as h => (show BT.AllP (fun pc as => ∀ a ∈ as, chkA GXo 3000 86 ctr_S_40 pc a = true) ctr_S_40.cut from trivial).at h⟩
theorem kre_S_41 : chkE GXo 3000 86 ctr_S_41 = true := by decide +kernel
theorem kr_S_41 : Chk GXo 3000 86 ctr_S_41 := ⟨kre_S_41, fun pc as h => (show BT.AllP (fun pc as => ∀ a ∈ as, chkA GXo 3000 86 ctr_S_41 pc a = true) ctr_S_41.cut from trivial).at h⟩
theorem kre_S_42 : chkE GXo 3000 86 ctr_S_42 = true := by decide +kernel
theorem kr_S_42 : Chk GXo 3000 86 ctr_S_42 := ⟨kre_S_42, fun pc as h => (show BT.AllP (fun pc as => ∀ a ∈ as, chkA GXo 3000 86 ctr_S_42 pc a = true) ctr_S_42.cut from trivial).at h⟩
theorem kre_S_43 : chkE GXo 3000 86 ctr_S_43 = true := by decide +kernel
theorem kr_S_43 : Chk GXo 3000 86 ctr_S_43 := ⟨kre_S_43, fun pc as h => (show BT.AllP (fun pc as => ∀ a ∈ as, chkA GXo 3000 86 ctr_S_43 pc a = true) ctr_S_43.cut from trivial).at h⟩
theorem kre_S_45 : chkE GXo 3000 86 ctr_S_45 = true := by decide +kernel
theorem kr_S_45 : Chk GXo 3000 86 ctr_S_45 := ⟨kre_S_45, fun pc as h => (show BT.AllP (fun pc as => ∀ a ∈ as, chkA GXo 3000 86 ctr_S_45 pc a = true) ctr_S_45.cut from trivial).at h⟩
theorem kre_S_46 : chkE GXo 3000 86 ctr_S_46 = true := by decide +kernel
theorem kr_S_46 : Chk GXo 3000 86 ctr_S_46 := ⟨kre_S_46, fun pc as h => (show BT.AllP (fun pc as => ∀ a ∈ as, chkA GXo 3000 86 ctr_S_46 pc a = true) ctr_S_46.cut from trivial).at h⟩
theorem kre_S_47 : chkE GXo 3000 86 ctr_S_47 = true := by decide +kernel
theorem kr_S_47 : Chk GXo 3000 86 ctr_S_47 := ⟨kre_S_47, fun pc as h => (show BT.AllP (fun pc as => ∀ a ∈ as, chkA GXo 3000 86 ctr_S_47 pc a = true) ctr_S_47.cut from trivial).at h⟩
theorem kre_S_59 : chkE GXo 3000 86 ctr_S_59 = true := by decide +kernel
theorem kr_S_59 : Chk GXo 3000 86 ctr_S_59 := ⟨kre_S_59, fun pc as h => (show BT.AllP (fun pc as => ∀ a ∈ as, chkA GXo 3000 86 ctr_S_59 pc a = true) ctr_S_59.cut from trivial).at h⟩
theorem kre_S_60 : chkE GXo 3000 86 ctr_S_60 = true := by decide +kernel
theorem kr_S_60 : Chk GXo 3000 86 ctr_S_60 := ⟨kre_S_60, fun pc as h => (show BT.AllP (fun pc as => ∀ a ∈ as, chkA GXo 3000 86 ctr_S_60 pc a = true) ctr_S_60.cut from trivial).at h⟩
theorem kre_S_61 : chkE GXo 3000 86 ctr_S_61 = true := by decide +kernel
theorem kr_S_61 : Chk GXo 3000 86 ctr_S_61 := ⟨kre_S_61, fun pc as h => (show BT.AllP (fun pc as => ∀ a ∈ as, chkA GXo 3000 86 ctr_S_61 pc a = true) ctr_S_61.cut from trivial).at h⟩
theorem kre_S_62 : chkE GXo 3000 86 ctr_S_62 = true := by decide +kernel
theorem kr_S_62 : Chk GXo 3000 86 ctr_S_62 := ⟨kre_S_62, fun pc as h => (show BT.AllP (fun pc as => ∀ a ∈ as, chkA GXo 3000 86 ctr_S_62 pc a = true) ctr_S_62.cut from trivial).at h⟩
theorem kre_S_91 : chkE GXo 3000 86 ctr_S_91 = true := by decide +kernel
theorem kr_S_91 : Chk GXo 3000 86 ctr_S_91 := ⟨kre_S_91, fun pc as h => (show BT.AllP (fun pc as => ∀ a ∈ as, chkA GXo 3000 86 ctr_S_91 pc a = true) ctr_S_91.cut from trivial).at h⟩
theorem kre_S_93 : chkE GXo 3000 86 ctr_S_93 = true := by decide +kernel
theorem kr_S_93 : Chk GXo 3000 86 ctr_S_93 := ⟨kre_S_93, fun pc as h => (show BT.AllP (fun pc as => ∀ a ∈ as, chkA GXo 3000 86 ctr_S_93 pc a = true) ctr_S_93.cut from trivial).at h⟩
theorem kre_Po_readThing : chkE GXo 3000 87 ctr_Po_readThing = true := by decide +kernel
theorem kr_Po_readThing : Chk GXo 3000 87 ctr_Po_readThing := ⟨kre_Po_readThing, fun pc as h => (show BT.AllP (fun pc as => ∀ a ∈ as, chkA GXo 3000 87 ctr_Po_readThing pc a = true) ctr_Po_readThing.cut from trivial).at h⟩
