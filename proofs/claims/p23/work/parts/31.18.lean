theorem kre_W_maybe : chkE GXo 3000 79 ctr_W_maybe = true := by decide +kernel
theorem kr_W_maybe : Chk GXo 3000 79 ctr_W_maybe := ⟨kre_W_maybe, fun pc as h => (show BT.AllP (fun pc as => ∀ a ∈ as, chkA GXo 3000 79 ctr_W_maybe pc a = true) ctr_W_maybe.cut from trivial).at h⟩
theorem kre_W_me : chkE GXo 3000 79 ctr_W_me = true := by decide +kernel
theorem kr_W_me : Chk GXo 3000 79 ctr_W_me := ⟨kre_W_me, fun pc as h => (show BT.AllP (fun pc as => ∀ a ∈ as, chkA GXo 3000 79 ctr_W_me pc a = true) ctr_W_me.cut from trivial).at h⟩
theorem kre_W_must : chkE GXo 3000 79 ctr_W_must = true := by decide +kernel
theorem kr_W_must : Chk GXo 3000 79 ctr_W_must := ⟨kre_W_must, fun pc as h => (show BT.AllP (fun pc as => ∀ a ∈ as, chkA GXo 3000 79 ctr_W_must pc a = true) ctr_W_must.cut from trivial).at h⟩
theorem kre_W_no : chkE GXo 3000 79 ctr_W_no = true := by decide +kernel
theorem kr_W_no : Chk GXo 3000 79 ctr_W_no := ⟨kre_W_no, fun pc as h => (show BT.AllP (fun pc as => ∀ a ∈ as, chkA GXo 3000 79 ctr_W_no pc a = true) ctr_W_no.cut from trivial).at h⟩
theorem kre_W_not : chkE GXo 3000 79 ctr_W_not = true := by decide +kernel
theorem kr_W_not : Chk GXo 3000 79 ctr_W_not := ⟨kre_W_not, fun pc as h => (show BT.AllP (fun pc as => ∀ a ∈ as, chkA GXo 3000 79 ctr_W_not pc a = true) ctr_W_not.cut from trivial).at h⟩
theorem kre_W_now : chkE GXo 3000 79 ctr_W_now = true := by decide +kernel
theorem kr_W_now : Chk GXo 3000 79 ctr_W_now := ⟨kre_W_now, fun pc as h => (show BT.AllP (fun pc as => ∀ a ∈ as, chkA GXo 3000 79 ctr_W_now pc a = true) ctr_W_now.cut from trivial).at h⟩
theorem kre_W_or : chkE GXo 3000 79 ctr_W_or = true := by decide +kernel
theorem kr_W_or : Chk GXo 3000 79 ctr_W_or := ⟨kre_W_or, fun pc as h => (show BT.AllP (fun pc as => ∀ a ∈ as, chkA GXo 3000 79 ctr_W_or pc a = true) ctr_W_or.cut from trivial).at h⟩
theorem kre_W_own : chkE GXo 3000 79 ctr_W_own = true := by decide +kernel
theorem kr_W_own : Chk GXo 3000 79 ctr_W_own := ⟨kre_W_own, fun pc as h => (show BT.AllP (fun pc as => ∀ a ∈ as, chkA GXo 3000 79 ctr_W_own pc a = true) ctr_W_own.cut from trivial).at h⟩
theorem kre_W_size : chkE GXo 3000 79 ctr_W_size = true := by decide +kernel
theorem kr_W_size : Chk GXo 3000 79 ctr_W_size := ⟨kre_W_size, fun pc as h => (show BT.AllP (fun pc as => ∀ a ∈ as, chkA GXo 3000 79 ctr_W_size pc a = true) ctr_W_size.cut from trivial).at h⟩
