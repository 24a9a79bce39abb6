theorem kre_W_yes : chkE GXo 3000 79 ctr_W_yes = true := by decide +kernel
theorem kr_W_yes : Chk GXo 3000 79 ctr_W_yes := ⟨kre_W_yes, fun pc as h => (show BT.AllP (fun pc as => ∀ a ∈ as, chkA GXo 3000 79 ctr_W_yes pc a = true) ctr_W_yes.cut from trivial).at h⟩
theorem kre_Po_readEffect : chkE GXo 3000 81 ctr_Po_readEffect = true := by decide +kernel
theorem kr_Po_readEffect : Chk GXo 3000 81 ctr_Po_readEffect := ⟨kre_Po_readEffect, fun pc as h => (show BT.AllP (fun pc as => ∀ a ∈ as, chkA GXo 3000 81 ctr_Po_readEffect pc a = true) ctr_Po_readEffect.cut from trivial).at h⟩
theorem kre_Po_numberBehind : chkE GXo 3000 82 ctr_Po_numberBehind = true := by decide +kernel
theorem kra_Po_numberBehind_89_0 : chkA GXo 3000 82 ctr_Po_numberBehind 89 car_Po_numberBehind_89_0 = true := by decide +kernel
theorem kra_Po_numberBehind_89_1 : chkA GXo 3000 82 ctr_Po_numberBehind 89 car_Po_numberBehind_89_1 = true := by decide +kernel
theorem kra_Po_numberBehind_89_2 : chkA GXo 3000 82 ctr_Po_numberBehind 89 car_Po_numberBehind_89_2 = true := by decide +kernel
theorem kra_Po_numberBehind_89_3 : chkA GXo 3000 82 ctr_Po_numberBehind 89 car_Po_numberBehind_89_3 = true := by decide +kernel
theorem kra_Po_numberBehind_89_4 : chkA GXo 3000 82 ctr_Po_numberBehind 89 car_Po_numberBehind_89_4 = true := by decide +kernel
theorem kra_Po_numberBehind_89_5 : chkA GXo 3000 82 ctr_Po_numberBehind 89 car_Po_numberBehind_89_5 = true := by decide +kernel
theorem kra_Po_numberBehind_89_6 : chkA GXo 3000 82 ctr_Po_numberBehind 89 car_Po_numberBehind_89_6 = true := by decide +kernel
theorem kra_Po_numberBehind_89_7 : chkA GXo 3000 82 ctr_Po_numberBehind 89 car_Po_numberBehind_89_7 = true := by decide +kernel
theorem kra_Po_numberBehind_89_8 : chkA GXo 3000 82 ctr_Po_numberBehind 89 car_Po_numberBehind_89_8 = true := by decide +kernel
theorem kra_Po_numberBehind_89_9 : chkA GXo 3000 82 ctr_Po_numberBehind 89 car_Po_numberBehind_89_9 = true := by decide +kernel
theorem kr_Po_numberBehind : Chk GXo 3000 82 ctr_Po_numberBehind := ⟨kre_Po_numberBehind, fun pc as h => (show BT.AllP (fun pc as => ∀ a ∈ as, chkA GXo 3000 82 ctr_Po_numberBehind pc a = true) ctr_Po_numberBehind.cut from ⟨⟨List.forall_mem_cons.mpr ⟨kra_Po_numberBehind_89_0, List.forall_mem_cons.mpr ⟨kra_Po_numberBehind_89_1, List.forall_mem_cons.mpr ⟨kra_Po_numberBehind_89_2, List.forall_mem_cons.mpr ⟨kra_Po_numberBehind_89_3, List.forall_mem_cons.mpr ⟨kra_Po_numberBehind_89_4, List.forall_mem_cons.mpr ⟨kra_Po_numberBehind_89_5, List.forall_mem_cons.mpr ⟨kra_Po_numberBehind_89_6, List.forall_mem_cons.mpr ⟨kra_Po_numberBehind_89_7, List.forall_mem_cons.mpr ⟨kra_Po_numberBehind_89_8, List.forall_mem_cons.mpr ⟨kra_Po_numberBehind_89_9, fun a ha => by cases ha⟩⟩⟩⟩⟩⟩⟩⟩⟩⟩, trivial⟩, trivial⟩).at h⟩
theorem kre_Po_readWho : chkE GXo 3000 83 ctr_Po_readWho = true := by decide +kernel
theorem kr_Po_readWho : Chk GXo 3000 83 ctr_Po_readWho := ⟨kre_Po_readWho, fun pc as h => (show BT.AllP (fun pc as => ∀ a ∈ as, chkA GXo 3000 83 ctr_Po_readWho pc a = true) ctr_Po_readWho.cut from trivial).at h⟩
