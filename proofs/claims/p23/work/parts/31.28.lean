theorem kre_M_sign : chkE GXo 3000 349 ctr_M_sign = true := by decide +kernel
theorem kr_M_sign : Chk GXo 3000 349 ctr_M_sign := ⟨kre_M_sign, fun pc as h => (show BT.AllP (fun pc as => ∀ a ∈ as, chkA GXo 3000 349 ctr_M_sign pc a = true) ctr_M_sign.cut from trivial).at h⟩
theorem kre_M_token : chkE GXo 3000 350 ctr_M_token = true := by decide +kernel
theorem kra_M_token_0_0 : chkA GXo 3000 350 ctr_M_token 0 car_M_token_0_0 = true := by decide +kernel
theorem kra_M_token_85_0 : chkA GXo 3000 350 ctr_M_token 85 car_M_token_85_0 = true := by decide +kernel
theorem kra_M_token_85_1 : chkA GXo 3000 350 ctr_M_token 85 car_M_token_85_1 = true := by decide +kernel
theorem kra_M_token_85_2 : chkA GXo 3000 350 ctr_M_token 85 car_M_token_85_2 = true := by decide +kernel
theorem kra_M_token_85_3 : chkA GXo 3000 350 ctr_M_token 85 car_M_token_85_3 = true := by decide +kernel
theorem kra_M_token_85_4 : chkA GXo 3000 350 ctr_M_token 85 car_M_token_85_4 = true := by decide +kernel
theorem kra_M_token_85_5 : chkA GXo 3000 350 ctr_M_token 85 car_M_token_85_5 = true := by decide +kernel
theorem kra_M_token_85_6 : chkA GXo 3000 350 ctr_M_token 85 car_M_token_85_6 = true := by decide +kernel
theorem kra_M_token_85_7 : chkA GXo 3000 350 ctr_M_token 85 car_M_token_85_7 = true := by decide +kernel
theorem kra_M_token_85_8 : chkA GXo 3000 350 ctr_M_token 85 car_M_token_85_8 = true := by decide +kernel
theorem kra_M_token_85_9 : chkA GXo 3000 350 ctr_M_token 85 car_M_token_85_9 = true := by decide +kernel
theorem kr_M_token : Chk GXo 3000 350 ctr_M_token := ⟨kre_M_token, fun pc as h => (show BT.AllP (fun pc as => ∀ a ∈ as, chkA GXo 3000 350 ctr_M_token pc a = true) ctr_M_token.cut from ⟨⟨List.forall_mem_cons.mpr ⟨kra_M_token_0_0, fun a ha => by cases ha⟩, trivial⟩, ⟨List.forall_mem_cons.mpr ⟨kra_M_token_85_0, List.forall_mem_cons.mpr ⟨kra_M_token_85_1, List.forall_mem_cons.mpr ⟨kra_M_token_85_2, List.forall_mem_cons.mpr ⟨kra_M_token_85_3, List.forall_mem_cons.mpr ⟨kra_M_token_85_4, List.forall_mem_cons.mpr ⟨kra_M_token_85_5, List.forall_mem_cons.mpr ⟨kra_M_token_85_6, List.forall_mem_cons.mpr ⟨kra_M_token_85_7, List.forall_mem_cons.mpr ⟨kra_M_token_85_8, List.forall_mem_cons.mpr ⟨kra_M_token_85_9, fun a ha => by cases ha⟩⟩⟩⟩⟩⟩⟩⟩⟩⟩, trivial⟩, trivial⟩).at h⟩
theorem kre_V_age : chkE GXo 3000 352 ctr_V_age = true := by decide +kernel
theorem kr_V_age : Chk GXo 3000 352 ctr_V_age := ⟨kre_V_age, fun pc as h => (show BT.AllP (fun pc as => ∀ a ∈ as, chkA GXo 3000 352 ctr_V_age pc a = true) ctr_V_age.cut from trivial).at h⟩
theorem kre_V_all : chkE GXo 3000 352 ctr_V_all = true := by decide +kernel
theorem kr_V_all : Chk GXo 3000 352 ctr_V_all := ⟨kre_V_all, fun pc as h => (show BT.AllP (fun pc as => ∀ a ∈ as, chkA GXo 3000 352 ctr_V_all pc a = true) ctr_V_all.cut from trivial).at h⟩
theorem kre_V_and : chkE GXo 3000 352 ctr_V_and = true := by decide +kernel
theorem kr_V_and : Chk GXo 3000 352 ctr_V_and := ⟨kre_V_and, fun pc as h => (show BT.AllP (fun pc as => ∀ a ∈ as, chkA GXo 3000 352 ctr_V_and pc a = true) ctr_V_and.cut from trivial).at h⟩
theorem kre_V_any : chkE GXo 3000 352 ctr_V_any = true := by decide +kernel
theorem kr_V_any : Chk GXo 3000 352 ctr_V_any := ⟨kre_V_any, fun pc as h => (show BT.AllP (fun pc as => ∀ a ∈ as, chkA GXo 3000 352 ctr_V_any pc a = true) ctr_V_any.cut from trivial).at h⟩
theorem kre_V_d : chkE GXo 3000 352 ctr_V_d = true := by decide +kernel
theorem kr_V_d : Chk GXo 3000 352 ctr_V_d := ⟨kre_V_d, fun pc as h => (show BT.AllP (fun pc as => ∀ a ∈ as, chkA GXo 3000 352 ctr_V_d pc a = true) ctr_V_d.cut from trivial).at h⟩
theorem kre_V_g : chkE GXo 3000 352 ctr_V_g = true := by decide +kernel
theorem kr_V_g : Chk GXo 3000 352 ctr_V_g := ⟨kre_V_g, fun pc as h => (show BT.AllP (fun pc as => ∀ a ∈ as, chkA GXo 3000 352 ctr_V_g pc a = true) ctr_V_g.cut from trivial).at h⟩
theorem kre_V_if : chkE GXo 3000 352 ctr_V_if = true := by decide +kernel
theorem kr_V_if : Chk GXo 3000 352 ctr_V_if := ⟨kre_V_if, fun pc as h => (show BT.AllP (fun pc as => ∀ a ∈ as, chkA GXo 3000 352 ctr_V_if pc a = true) ctr_V_if.cut from trivial).at h⟩
theorem kre_V_in : chkE GXo 3000 352 ctr_V_in = true := by decide +kernel
theorem kr_V_in : Chk GXo 3000 352 ctr_V_in := ⟨kre_V_in, fun pc as h => (show BT.AllP (fun pc as => ∀ a ∈ as, chkA GXo 3000 352 ctr_V_in pc a = true) ctr_V_in.cut from trivial).at h⟩
theorem kre_V_it : chkE GXo 3000 352 ctr_V_it = true := by decide +kernel
theorem kr_V_it : Chk GXo 3000 352 ctr_V_it := ⟨kre_V_it, fun pc as h => (show BT.AllP (fun pc as => ∀ a ∈ as, chkA GXo 3000 352 ctr_V_it pc a = true) ctr_V_it.cut from trivial).at h⟩
theorem kre_V_known : chkE GXo 3000 352 ctr_V_known = true := by decide +kernel
theorem kr_V_known : Chk GXo 3000 352 ctr_V_known := ⟨kre_V_known, fun pc as h => (show BT.AllP (fun pc as => ∀ a ∈ as, chkA GXo 3000 352 ctr_V_known pc a = true) ctr_V_known.cut from trivial).at h⟩
theorem kre_V_maybe : chkE GXo 3000 352 ctr_V_maybe = true := by decide +kernel
theorem kr_V_maybe : Chk GXo 3000 352 ctr_V_maybe := ⟨kre_V_maybe, fun pc as h => (show BT.AllP (fun pc as => ∀ a ∈ as, chkA GXo 3000 352 ctr_V_maybe pc a = true) ctr_V_maybe.cut from trivial).at h⟩
theorem kre_V_me : chkE GXo 3000 352 ctr_V_me = true := by decide +kernel
theorem kr_V_me : Chk GXo 3000 352 ctr_V_me := ⟨kre_V_me, fun pc as h => (show BT.AllP (fun pc as => ∀ a ∈ as, chkA GXo 3000 352 ctr_V_me pc a = true) ctr_V_me.cut from trivial).at h⟩
theorem kre_V_must : chkE GXo 3000 352 ctr_V_must = true := by decide +kernel
theorem kr_V_must : Chk GXo 3000 352 ctr_V_must := ⟨kre_V_must, fun pc as h => (show BT.AllP (fun pc as => ∀ a ∈ as, chkA GXo 3000 352 ctr_V_must pc a = true) ctr_V_must.cut from trivial).at h⟩
theorem kre_V_no : chkE GXo 3000 352 ctr_V_no = true := by decide +kernel
theorem kr_V_no : Chk GXo 3000 352 ctr_V_no := ⟨kre_V_no, fun pc as h => (show BT.AllP (fun pc as => ∀ a ∈ as, chkA GXo 3000 352 ctr_V_no pc a = true) ctr_V_no.cut from trivial).at h⟩
theorem kre_V_not : chkE GXo 3000 352 ctr_V_not = true := by decide +kernel
theorem kr_V_not : Chk GXo 3000 352 ctr_V_not := ⟨kre_V_not, fun pc as h => (show BT.AllP (fun pc as => ∀ a ∈ as, chkA GXo 3000 352 ctr_V_not pc a = true) ctr_V_not.cut from trivial).at h⟩
theorem kre_V_now : chkE GXo 3000 352 ctr_V_now = true := by decide +kernel
theorem kr_V_now : Chk GXo 3000 352 ctr_V_now := ⟨kre_V_now, fun pc as h => (show BT.AllP (fun pc as => ∀ a ∈ as, chkA GXo 3000 352 ctr_V_now pc a = true) ctr_V_now.cut from trivial).at h⟩
theorem kre_V_o : chkE GXo 3000 352 ctr_V_o = true := by decide +kernel
theorem kr_V_o : Chk GXo 3000 352 ctr_V_o := ⟨kre_V_o, fun pc as h => (show BT.AllP (fun pc as => ∀ a ∈ as, chkA GXo 3000 352 ctr_V_o pc a = true) ctr_V_o.cut from trivial).at h⟩
theorem kre_V_or : chkE GXo 3000 352 ctr_V_or = true := by decide +kernel
theorem kr_V_or : Chk GXo 3000 352 ctr_V_or := ⟨kre_V_or, fun pc as h => (show BT.AllP (fun pc as => ∀ a ∈ as, chkA GXo 3000 352 ctr_V_or pc a = true) ctr_V_or.cut from trivial).at h⟩
theorem kre_V_own : chkE GXo 3000 352 ctr_V_own = true := by decide +kernel
theorem kr_V_own : Chk GXo 3000 352 ctr_V_own := ⟨kre_V_own, fun pc as h => (show BT.AllP (fun pc as => ∀ a ∈ as, chkA GXo 3000 352 ctr_V_own pc a = true) ctr_V_own.cut from trivial).at h⟩
theorem kre_V_r : chkE GXo 3000 352 ctr_V_r = true := by decide +kernel
theorem kr_V_r : Chk GXo 3000 352 ctr_V_r := ⟨kre_V_r, fun pc as h => (show BT.AllP (fun pc as => ∀ a ∈ as, chkA GXo 3000 352 ctr_V_r pc a = true) ctr_V_r.cut from trivial).at h⟩
theorem kre_V_size : chkE GXo 3000 352 ctr_V_size = true := by decide +kernel
theorem kr_V_size : Chk GXo 3000 352 ctr_V_size := ⟨kre_V_size, fun pc as h => (show BT.AllP (fun pc as => ∀ a ∈ as, chkA GXo 3000 352 ctr_V_size pc a = true) ctr_V_size.cut from trivial).at h⟩
theorem kre_V_w : chkE GXo 3000 352 ctr_V_w = true := by decide +kernel
theorem kr_V_w : Chk GXo 3000 352 ctr_V_w := ⟨kre_V_w, fun pc as h => (show BT.AllP (fun pc as => ∀ a ∈ as, chkA GXo 3000 352 ctr_V_w pc a = true) ctr_V_w.cut from trivial).at h⟩
theorem kre_V_x : chkE GXo 3000 352 ctr_V_x = true := by decide +kernel
theorem kr_V_x : Chk GXo 3000 352 ctr_V_x := ⟨kre_V_x, fun pc as h => (show BT.AllP (fun pc as => ∀ a ∈ as, chkA GXo 3000 352 ctr_V_x pc a = true) ctr_V_x.cut from trivial).at h⟩
theorem kre_V_yes : chkE GXo 3000 352 ctr_V_yes = true := by decide +kernel
theorem kr_V_yes : Chk GXo 3000 352 ctr_V_yes := ⟨kre_V_yes, fun pc as h => (show BT.AllP (fun pc as => ∀ a ∈ as, chkA GXo 3000 352 ctr_V_yes pc a = true) ctr_V_yes.cut from trivial).at h⟩
theorem kre_M_numbered : chkE GXo 3000 353 ctr_M_numbered = true := by decide +kernel
