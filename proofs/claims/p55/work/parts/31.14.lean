theorem ke_M_left : chkE GX 3000 300 ct_M_left = true := by decide +kernel
theorem ka_M_left_129_0 : chkA GX 3000 300 ct_M_left 129 ca_M_left_129_0 = true := by decide +kernel
theorem kk_M_left : Chk GX 3000 300 ct_M_left := ⟨ke_M_left, fun pc as h => (show BT.AllP (fun pc as => ∀ a ∈ as, chkA GX 3000 300 ct_M_left pc a = true) ct_M_left.cut from ⟨⟨List.forall_mem_cons.mpr ⟨ka_M_left_129_0, fun a ha => by cases ha⟩, trivial⟩, trivial⟩).at h⟩
theorem ke_M_feed : chkE GX 3000 302 ct_M_feed = true := by decide +kernel
theorem ka_M_feed_34_0 : chkA GX 3000 302 ct_M_feed 34 ca_M_feed_34_0 = true := by decide +kernel
theorem kk_M_feed : Chk GX 3000 302 ct_M_feed := ⟨ke_M_feed, fun pc as h => (show BT.AllP (fun pc as => ∀ a ∈ as, chkA GX 3000 302 ct_M_feed pc a = true) ct_M_feed.cut from ⟨⟨List.forall_mem_cons.mpr ⟨ka_M_feed_34_0, fun a ha => by cases ha⟩, trivial⟩, trivial⟩).at h⟩
theorem ke_M_cut : chkE GX 3000 303 ct_M_cut = true := by decide +kernel
theorem kk_M_cut : Chk GX 3000 303 ct_M_cut := ⟨ke_M_cut, fun pc as h => (show BT.AllP (fun pc as => ∀ a ∈ as, chkA GX 3000 303 ct_M_cut pc a = true) ct_M_cut.cut from trivial).at h⟩
theorem ke_M_sumOf : chkE GX 3000 306 ct_M_sumOf = true := by decide +kernel
theorem ka_M_sumOf_5_0 : chkA GX 3000 306 ct_M_sumOf 5 ca_M_sumOf_5_0 = true := by decide +kernel
theorem kk_M_sumOf : Chk GX 3000 306 ct_M_sumOf := ⟨ke_M_sumOf, fun pc as h => (show BT.AllP (fun pc as => ∀ a ∈ as, chkA GX 3000 306 ct_M_sumOf pc a = true) ct_M_sumOf.cut from ⟨⟨List.forall_mem_cons.mpr ⟨ka_M_sumOf_5_0, fun a ha => by cases ha⟩, trivial⟩, trivial⟩).at h⟩
theorem ke_M_log : chkE GX 3000 307 ct_M_log = true := by decide +kernel
theorem kk_M_log : Chk GX 3000 307 ct_M_log := ⟨ke_M_log, fun pc as h => (show BT.AllP (fun pc as => ∀ a ∈ as, chkA GX 3000 307 ct_M_log pc a = true) ct_M_log.cut from trivial).at h⟩
theorem ke_M_logged : chkE GX 3000 308 ct_M_logged = true := by decide +kernel
theorem kk_M_logged : Chk GX 3000 308 ct_M_logged := ⟨ke_M_logged, fun pc as h => (show BT.AllP (fun pc as => ∀ a ∈ as, chkA GX 3000 308 ct_M_logged pc a = true) ct_M_logged.cut from trivial).at h⟩
theorem ke_M_forge : chkE GX 3000 309 ct_M_forge = true := by decide +kernel
theorem kk_M_forge : Chk GX 3000 309 ct_M_forge := ⟨ke_M_forge, fun pc as h => (show BT.AllP (fun pc as => ∀ a ∈ as, chkA GX 3000 309 ct_M_forge pc a = true) ct_M_forge.cut from trivial).at h⟩
theorem ke_M_wrong : chkE GX 3000 310 ct_M_wrong = true := by decide +kernel
theorem ka_M_wrong_2_0 : chkA GX 3000 310 ct_M_wrong 2 ca_M_wrong_2_0 = true := by decide +kernel
theorem kk_M_wrong : Chk GX 3000 310 ct_M_wrong := ⟨ke_M_wrong, fun pc as h => (show BT.AllP (fun pc as => ∀ a ∈ as, chkA GX 3000 310 ct_M_wrong pc a = true) ct_M_wrong.cut from ⟨⟨List.forall_mem_cons.mpr ⟨ka_M_wrong_2_0, fun a ha => by cases ha⟩, trivial⟩, trivial⟩).at h⟩
theorem ke_M_sealed : chkE GX 3000 311 ct_M_sealed = true := by decide +kernel
theorem ka_M_sealed_21_0 : chkA GX 3000 311 ct_M_sealed 21 ca_M_sealed_21_0 = true := by decide +kernel
theorem kk_M_sealed : Chk GX 3000 311 ct_M_sealed := ⟨ke_M_sealed, fun pc as h => (show BT.AllP (fun pc as => ∀ a ∈ as, chkA GX 3000 311 ct_M_sealed pc a = true) ct_M_sealed.cut from ⟨⟨List.forall_mem_cons.mpr ⟨ka_M_sealed_21_0, fun a ha => by cases ha⟩, trivial⟩, trivial⟩).at h⟩
theorem ke_M_group : chkE GX 3000 313 ct_M_group = true := by decide +kernel
theorem kk_M_group : Chk GX 3000 313 ct_M_group := ⟨ke_M_group, fun pc as h => (show BT.AllP (fun pc as => ∀ a ∈ as, chkA GX 3000 313 ct_M_group pc a = true) ct_M_group.cut from trivial).at h⟩
theorem ke_M_spreads : chkE GX 3000 317 ct_M_spreads = true := by decide +kernel
theorem ka_M_spreads_2_0 : chkA GX 3000 317 ct_M_spreads 2 ca_M_spreads_2_0 = true := by decide +kernel
theorem ka_M_spreads_11_0 : chkA GX 3000 317 ct_M_spreads 11 ca_M_spreads_11_0 = true := by decide +kernel
theorem kk_M_spreads : Chk GX 3000 317 ct_M_spreads := ⟨ke_M_spreads, fun pc as h => (show BT.AllP (fun pc as => ∀ a ∈ as, chkA GX 3000 317 ct_M_spreads pc a = true) ct_M_spreads.cut from ⟨⟨List.forall_mem_cons.mpr ⟨ka_M_spreads_2_0, fun a ha => by cases ha⟩, trivial⟩, ⟨List.forall_mem_cons.mpr ⟨ka_M_spreads_11_0, fun a ha => by cases ha⟩, trivial⟩, trivial⟩).at h⟩
theorem ke_M_reaches : chkE GX 3000 318 ct_M_reaches = true := by decide +kernel
theorem ka_M_reaches_3_0 : chkA GX 3000 318 ct_M_reaches 3 ca_M_reaches_3_0 = true := by decide +kernel
theorem ka_M_reaches_27_0 : chkA GX 3000 318 ct_M_reaches 27 ca_M_reaches_27_0 = true := by decide +kernel
theorem kk_M_reaches : Chk GX 3000 318 ct_M_reaches := ⟨ke_M_reaches, fun pc as h => (show BT.AllP (fun pc as => ∀ a ∈ as, chkA GX 3000 318 ct_M_reaches pc a = true) ct_M_reaches.cut from ⟨⟨List.forall_mem_cons.mpr ⟨ka_M_reaches_3_0, fun a ha => by cases ha⟩, trivial⟩, ⟨List.forall_mem_cons.mpr ⟨ka_M_reaches_27_0, fun a ha => by cases ha⟩, trivial⟩, trivial⟩).at h⟩
theorem ke_M_isIn : chkE GX 3000 319 ct_M_isIn = true := by decide +kernel
theorem kk_M_isIn : Chk GX 3000 319 ct_M_isIn := ⟨ke_M_isIn, fun pc as h => (show BT.AllP (fun pc as => ∀ a ∈ as, chkA GX 3000 319 ct_M_isIn pc a = true) ct_M_isIn.cut from trivial).at h⟩
theorem ke_M_put : chkE GX 3000 321 ct_M_put = true := by decide +kernel
theorem ka_M_put_77_0 : chkA GX 3000 321 ct_M_put 77 ca_M_put_77_0 = true := by decide +kernel
theorem ka_M_put_111_0 : chkA GX 3000 321 ct_M_put 111 ca_M_put_111_0 = true := by decide +kernel
theorem ka_M_put_122_0 : chkA GX 3000 321 ct_M_put 122 ca_M_put_122_0 = true := by decide +kernel
theorem kk_M_put : Chk GX 3000 321 ct_M_put := ⟨ke_M_put, fun pc as h => (show BT.AllP (fun pc as => ∀ a ∈ as, chkA GX 3000 321 ct_M_put pc a = true) ct_M_put.cut from ⟨⟨List.forall_mem_cons.mpr ⟨ka_M_put_77_0, fun a ha => by cases ha⟩, trivial⟩, ⟨List.forall_mem_cons.mpr ⟨ka_M_put_111_0, fun a ha => by cases ha⟩, trivial⟩, ⟨List.forall_mem_cons.mpr ⟨ka_M_put_122_0, fun a ha => by cases ha⟩, trivial⟩, trivial⟩).at h⟩
theorem ke_M_back : chkE GX 3000 322 ct_M_back = true := by decide +kernel
theorem kk_M_back : Chk GX 3000 322 ct_M_back := ⟨ke_M_back, fun pc as h => (show BT.AllP (fun pc as => ∀ a ∈ as, chkA GX 3000 322 ct_M_back pc a = true) ct_M_back.cut from trivial).at h⟩
theorem ke_M_belongs : chkE GX 3000 323 ct_M_belongs = true := by decide +kernel
theorem kk_M_belongs : Chk GX 3000 323 ct_M_belongs := ⟨ke_M_belongs, fun pc as h => (show BT.AllP (fun pc as => ∀ a ∈ as, chkA GX 3000 323 ct_M_belongs pc a = true) ct_M_belongs.cut from trivial).at h⟩
theorem ke_M_rowOf : chkE GX 3000 324 ct_M_rowOf = true := by decide +kernel
theorem kk_M_rowOf : Chk GX 3000 324 ct_M_rowOf := ⟨ke_M_rowOf, fun pc as h => (show BT.AllP (fun pc as => ∀ a ∈ as, chkA GX 3000 324 ct_M_rowOf pc a = true) ct_M_rowOf.cut from trivial).at h⟩
theorem ke_M_feature : chkE GX 3000 327 ct_M_feature = true := by decide +kernel
theorem ka_M_feature_78_0 : chkA GX 3000 327 ct_M_feature 78 ca_M_feature_78_0 = true := by decide +kernel
theorem kk_M_feature : Chk GX 3000 327 ct_M_feature := ⟨ke_M_feature, fun pc as h => (show BT.AllP (fun pc as => ∀ a ∈ as, chkA GX 3000 327 ct_M_feature pc a = true) ct_M_feature.cut from ⟨⟨List.forall_mem_cons.mpr ⟨ka_M_feature_78_0, fun a ha => by cases ha⟩, trivial⟩, trivial⟩).at h⟩
theorem ke_M_item : chkE GX 3000 328 ct_M_item = true := by decide +kernel
theorem kk_M_item : Chk GX 3000 328 ct_M_item := ⟨ke_M_item, fun pc as h => (show BT.AllP (fun pc as => ∀ a ∈ as, chkA GX 3000 328 ct_M_item pc a = true) ct_M_item.cut from trivial).at h⟩
theorem ke_M_itemOf : chkE GX 3000 329 ct_M_itemOf = true := by decide +kernel
theorem kk_M_itemOf : Chk GX 3000 329 ct_M_itemOf := ⟨ke_M_itemOf, fun pc as h => (show BT.AllP (fun pc as => ∀ a ∈ as, chkA GX 3000 329 ct_M_itemOf pc a = true) ct_M_itemOf.cut from trivial).at h⟩
