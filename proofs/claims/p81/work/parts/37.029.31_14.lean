theorem ke_M_leftL9 : chkE GXL9 3000 300 ct_M_leftL9 = true := by decide +kernel
theorem ka_M_left_129_0L9 : chkA GXL9 3000 300 ct_M_leftL9 129 ca_M_left_129_0L9 = true := by decide +kernel
theorem kk_M_leftL9 : Chk GXL9 3000 300 ct_M_leftL9 := ⟨ke_M_leftL9, fun pc as h => (show BT.AllP (fun pc as => ∀ a ∈ as, chkA GXL9 3000 300 ct_M_leftL9 pc a = true) ct_M_leftL9.cut from ⟨⟨List.forall_mem_cons.mpr ⟨ka_M_left_129_0L9, fun a ha => by cases ha⟩, trivial⟩, trivial⟩).at h⟩
theorem ke_M_feed : chkE GXL9 3000 302 ct_M_feed = true := by decide +kernel
theorem ka_M_feed_34_0 : chkA GXL9 3000 302 ct_M_feed 34 ca_M_feed_34_0 = true := by decide +kernel
theorem kk_M_feed : Chk GXL9 3000 302 ct_M_feed := ⟨ke_M_feed, fun pc as h => (show BT.AllP (fun pc as => ∀ a ∈ as, chkA GXL9 3000 302 ct_M_feed pc a = true) ct_M_feed.cut from ⟨⟨List.forall_mem_cons.mpr ⟨ka_M_feed_34_0, fun a ha => by cases ha⟩, trivial⟩, trivial⟩).at h⟩
theorem ke_M_cut : chkE GXL9 3000 303 ct_M_cut = true := by decide +kernel
theorem kk_M_cut : Chk GXL9 3000 303 ct_M_cut := ⟨ke_M_cut, fun pc as h => (show BT.AllP (fun pc as => ∀ a ∈ as, chkA GXL9 3000 303 ct_M_cut pc a = true) ct_M_cut.cut from trivial).at h⟩
theorem ke_M_sumOfL9 : chkE GXL9 3000 306 ct_M_sumOfL9 = true := by decide +kernel
theorem ka_M_sumOf_5_0L9 : chkA GXL9 3000 306 ct_M_sumOfL9 5 ca_M_sumOf_5_0L9 = true := by decide +kernel
theorem kk_M_sumOfL9 : Chk GXL9 3000 306 ct_M_sumOfL9 := ⟨ke_M_sumOfL9, fun pc as h => (show BT.AllP (fun pc as => ∀ a ∈ as, chkA GXL9 3000 306 ct_M_sumOfL9 pc a = true) ct_M_sumOfL9.cut from ⟨⟨List.forall_mem_cons.mpr ⟨ka_M_sumOf_5_0L9, fun a ha => by cases ha⟩, trivial⟩, trivial⟩).at h⟩
theorem ke_M_logL9 : chkE GXL9 3000 307 ct_M_logL9 = true := by decide +kernel
theorem kk_M_logL9 : Chk GXL9 3000 307 ct_M_logL9 := ⟨ke_M_logL9, fun pc as h => (show BT.AllP (fun pc as => ∀ a ∈ as, chkA GXL9 3000 307 ct_M_logL9 pc a = true) ct_M_logL9.cut from trivial).at h⟩
theorem ke_M_loggedL9 : chkE GXL9 3000 308 ct_M_loggedL9 = true := by decide +kernel
theorem kk_M_loggedL9 : Chk GXL9 3000 308 ct_M_loggedL9 := ⟨ke_M_loggedL9, fun pc as h => (show BT.AllP (fun pc as => ∀ a ∈ as, chkA GXL9 3000 308 ct_M_loggedL9 pc a = true) ct_M_loggedL9.cut from trivial).at h⟩
theorem ke_M_forgeL9 : chkE GXL9 3000 309 ct_M_forgeL9 = true := by decide +kernel
theorem kk_M_forgeL9 : Chk GXL9 3000 309 ct_M_forgeL9 := ⟨ke_M_forgeL9, fun pc as h => (show BT.AllP (fun pc as => ∀ a ∈ as, chkA GXL9 3000 309 ct_M_forgeL9 pc a = true) ct_M_forgeL9.cut from trivial).at h⟩
theorem ke_M_wrongL9 : chkE GXL9 3000 310 ct_M_wrongL9 = true := by decide +kernel
theorem ka_M_wrong_2_0L9 : chkA GXL9 3000 310 ct_M_wrongL9 2 ca_M_wrong_2_0L9 = true := by decide +kernel
theorem kk_M_wrongL9 : Chk GXL9 3000 310 ct_M_wrongL9 := ⟨ke_M_wrongL9, fun pc as h => (show BT.AllP (fun pc as => ∀ a ∈ as, chkA GXL9 3000 310 ct_M_wrongL9 pc a = true) ct_M_wrongL9.cut from ⟨⟨List.forall_mem_cons.mpr ⟨ka_M_wrong_2_0L9, fun a ha => by cases ha⟩, trivial⟩, trivial⟩).at h⟩
theorem ke_M_sealedL9 : chkE GXL9 3000 311 ct_M_sealedL9 = true := by decide +kernel
theorem ka_M_sealed_21_0L9 : chkA GXL9 3000 311 ct_M_sealedL9 21 ca_M_sealed_21_0L9 = true := by decide +kernel
theorem kk_M_sealedL9 : Chk GXL9 3000 311 ct_M_sealedL9 := ⟨ke_M_sealedL9, fun pc as h => (show BT.AllP (fun pc as => ∀ a ∈ as, chkA GXL9 3000 311 ct_M_sealedL9 pc a = true) ct_M_sealedL9.cut from ⟨⟨List.forall_mem_cons.mpr ⟨ka_M_sealed_21_0L9, fun a ha => by cases ha⟩, trivial⟩, trivial⟩).at h⟩
theorem ke_M_group : chkE GXL9 3000 313 ct_M_group = true := by decide +kernel
theorem kk_M_group : Chk GXL9 3000 313 ct_M_group := ⟨ke_M_group, fun pc as h => (show BT.AllP (fun pc as => ∀ a ∈ as, chkA GXL9 3000 313 ct_M_group pc a = true) ct_M_group.cut from trivial).at h⟩
theorem ke_M_spreadsL9 : chkE GXL9 3000 317 ct_M_spreadsL9 = true := by decide +kernel
theorem ka_M_spreads_2_0L9 : chkA GXL9 3000 317 ct_M_spreadsL9 2 ca_M_spreads_2_0 = true := by decide +kernel
theorem ka_M_spreads_11_0L9 : chkA GXL9 3000 317 ct_M_spreadsL9 11 ca_M_spreads_11_0L9 = true := by decide +kernel
theorem kk_M_spreadsL9 : Chk GXL9 3000 317 ct_M_spreadsL9 := ⟨ke_M_spreadsL9, fun pc as h => (show BT.AllP (fun pc as => ∀ a ∈ as, chkA GXL9 3000 317 ct_M_spreadsL9 pc a = true) ct_M_spreadsL9.cut from ⟨⟨List.forall_mem_cons.mpr ⟨ka_M_spreads_2_0L9, fun a ha => by cases ha⟩, trivial⟩, ⟨List.forall_mem_cons.mpr ⟨ka_M_spreads_11_0L9, fun a ha => by cases ha⟩, trivial⟩, trivial⟩).at h⟩
theorem ke_M_reachesL9 : chkE GXL9 3000 318 ct_M_reachesL9 = true := by decide +kernel
theorem ka_M_reaches_3_0L9 : chkA GXL9 3000 318 ct_M_reachesL9 3 ca_M_reaches_3_0L9 = true := by decide +kernel
theorem ka_M_reaches_27_0L9 : chkA GXL9 3000 318 ct_M_reachesL9 27 ca_M_reaches_27_0L9 = true := by decide +kernel
theorem kk_M_reachesL9 : Chk GXL9 3000 318 ct_M_reachesL9 := ⟨ke_M_reachesL9, fun pc as h => (show BT.AllP (fun pc as => ∀ a ∈ as, chkA GXL9 3000 318 ct_M_reachesL9 pc a = true) ct_M_reachesL9.cut from ⟨⟨List.forall_mem_cons.mpr ⟨ka_M_reaches_3_0L9, fun a ha => by cases ha⟩, trivial⟩, ⟨List.forall_mem_cons.mpr ⟨ka_M_reaches_27_0L9, fun a ha => by cases ha⟩, trivial⟩, trivial⟩).at h⟩
theorem ke_M_isInL9 : chkE GXL9 3000 319 ct_M_isInL9 = true := by decide +kernel
theorem kk_M_isInL9 : Chk GXL9 3000 319 ct_M_isInL9 := ⟨ke_M_isInL9, fun pc as h => (show BT.AllP (fun pc as => ∀ a ∈ as, chkA GXL9 3000 319 ct_M_isInL9 pc a = true) ct_M_isInL9.cut from trivial).at h⟩
theorem ke_M_put : chkE GXL9 3000 321 ct_M_put = true := by decide +kernel
theorem ka_M_put_77_0 : chkA GXL9 3000 321 ct_M_put 77 ca_M_put_77_0 = true := by decide +kernel
theorem ka_M_put_111_0 : chkA GXL9 3000 321 ct_M_put 111 ca_M_put_111_0 = true := by decide +kernel
theorem ka_M_put_122_0 : chkA GXL9 3000 321 ct_M_put 122 ca_M_put_122_0 = true := by decide +kernel
theorem kk_M_put : Chk GXL9 3000 321 ct_M_put := ⟨ke_M_put, fun pc as h => (show BT.AllP (fun pc as => ∀ a ∈ as, chkA GXL9 3000 321 ct_M_put pc a = true) ct_M_put.cut from ⟨⟨List.forall_mem_cons.mpr ⟨ka_M_put_77_0, fun a ha => by cases ha⟩, trivial⟩, ⟨List.forall_mem_cons.mpr ⟨ka_M_put_111_0, fun a ha => by cases ha⟩, trivial⟩, ⟨List.forall_mem_cons.mpr ⟨ka_M_put_122_0, fun a ha => by cases ha⟩, trivial⟩, trivial⟩).at h⟩
theorem ke_M_back : chkE GXL9 3000 322 ct_M_back = true := by decide +kernel
theorem kk_M_back : Chk GXL9 3000 322 ct_M_back := ⟨ke_M_back, fun pc as h => (show BT.AllP (fun pc as => ∀ a ∈ as, chkA GXL9 3000 322 ct_M_back pc a = true) ct_M_back.cut from trivial).at h⟩
theorem ke_M_belongsL9 : chkE GXL9 3000 323 ct_M_belongsL9 = true := by decide +kernel
theorem kk_M_belongsL9 : Chk GXL9 3000 323 ct_M_belongsL9 := ⟨ke_M_belongsL9, fun pc as h => (show BT.AllP (fun pc as => ∀ a ∈ as, chkA GXL9 3000 323 ct_M_belongsL9 pc a = true) ct_M_belongsL9.cut from trivial).at h⟩
theorem ke_M_rowOfL9 : chkE GXL9 3000 324 ct_M_rowOfL9 = true := by decide +kernel
theorem kk_M_rowOfL9 : Chk GXL9 3000 324 ct_M_rowOfL9 := ⟨ke_M_rowOfL9, fun pc as h => (show BT.AllP (fun pc as => ∀ a ∈ as, chkA GXL9 3000 324 ct_M_rowOfL9 pc a = true) ct_M_rowOfL9.cut from trivial).at h⟩
theorem ke_M_feature : chkE GXL9 3000 327 ct_M_featureL9 = true := by decide +kernel
theorem ka_M_feature_78_0 : chkA GXL9 3000 327 ct_M_featureL9 78 ca_M_feature_78_0 = true := by decide +kernel
theorem kk_M_feature : Chk GXL9 3000 327 ct_M_featureL9 := ⟨ke_M_feature, fun pc as h => (show BT.AllP (fun pc as => ∀ a ∈ as, chkA GXL9 3000 327 ct_M_featureL9 pc a = true) ct_M_featureL9.cut from ⟨⟨List.forall_mem_cons.mpr ⟨ka_M_feature_78_0, fun a ha => by cases ha⟩, trivial⟩, trivial⟩).at h⟩
theorem ke_M_item : chkE GXL9 3000 328 ct_M_itemL9 = true := by decide +kernel
theorem kk_M_item : Chk GXL9 3000 328 ct_M_itemL9 := ⟨ke_M_item, fun pc as h => (show BT.AllP (fun pc as => ∀ a ∈ as, chkA GXL9 3000 328 ct_M_itemL9 pc a = true) ct_M_itemL9.cut from trivial).at h⟩
theorem ke_M_itemOfL9 : chkE GXL9 3000 329 ct_M_itemOfL9 = true := by decide +kernel
theorem kk_M_itemOfL9 : Chk GXL9 3000 329 ct_M_itemOfL9 := ⟨ke_M_itemOfL9, fun pc as h => (show BT.AllP (fun pc as => ∀ a ∈ as, chkA GXL9 3000 329 ct_M_itemOfL9 pc a = true) ct_M_itemOfL9.cut from trivial).at h⟩
