theorem ke_M_left : chkE GX 3000 300 ct_M_left = true := by decide +kernel
theorem ka_M_left_129_0 : chkA GX 3000 300 ct_M_left 129 ca_M_left_129_0 = true := by decide +kernel
theorem kk_M_left : Chk GX 3000 300 ct_M_left := ⟨ke_M_left, fun pc as h => (show BT.AllP (fun pc as => ∀ a ∈ as, chkA GX 3000 300 ct_M_left pc a = true) ct_M_left.cut from ⟨⟨List.forall_mem_cons.mpr ⟨ka_M_left_129_0, fun a ha => by cases ha⟩, trivial⟩, trivial⟩).at h⟩
theorem ke_M_feed : chkE GX 3000 302 ct_M_feed = true := by decide +kernel
theorem ka_M_feed_34_0 : chkA GX 3000 302 ct_M_feed 34 ca_M_feed_34_0 = true := by decide +kernel
theorem kk_M_feed : Chk GX 3000 302 ct_M_feed := ⟨ke_M_feed, fun pc as h => (show BT.AllP (fun pc as => ∀ a ∈ as, chkA GX 3000 302 ct_M_feed pc a = true) ct_M_feed.cut from ⟨⟨List.forall_mem_cons.mpr ⟨ka_M_feed_34_0, fun a ha => by cases ha⟩, trivial⟩, trivial⟩).at h⟩
theorem ke_M_cut : chkE GX 3000 303 ct_M_cut = true := by decide +kernel
theorem kk_M_cut : Chk GX 3000 303 ct_M_cut := ⟨ke_M_cut, fun pc as h => (show BT.AllP (fun pc as => ∀ a ∈ as, chkA GX 3000 303 ct_M_cut pc a = true) ct_M_cut.cut from trivial).at h⟩
theorem ke_M_tick : chkE GX 3000 304 ct_M_tick = true := by decide +kernel
theorem kk_M_tick : Chk GX 3000 304 ct_M_tick := ⟨ke_M_tick, fun pc as h => (show BT.AllP (fun pc as => ∀ a ∈ as, chkA GX 3000 304 ct_M_tick pc a = true) ct_M_tick.cut from trivial).at h⟩
theorem ke_M_sumOf : chkE GX 3000 306 ct_M_sumOf = true := by decide +kernel
theorem ka_M_sumOf_5_0 : chkA GX 3000 306 ct_M_sumOf 5 ca_M_sumOf_5_0 = true := by decide +kernel
theorem kk_M_sumOf : Chk GX 3000 306 ct_M_sumOf := ⟨ke_M_sumOf, fun pc as h => (show BT.AllP (fun pc as => ∀ a ∈ as, chkA GX 3000 306 ct_M_sumOf pc a = true) ct_M_sumOf.cut from ⟨⟨List.forall_mem_cons.mpr ⟨ka_M_sumOf_5_0, fun a ha => by cases ha⟩, trivial⟩, trivial⟩).at h⟩
theorem ke_M_log : chkE GX 3000 307 ct_M_log = true := by decide +kernel
theorem kk_M_log : Chk GX 3000 307 ct_M_log := ⟨ke_M_log, fun pc as h => (show BT.AllP (fun pc as => ∀ a ∈ as, chkA GX 3000 307 ct_M_log pc a = true) ct_M_log.cut from trivial).at h⟩
theorem ke_M_logged : chkE GX 3000 308 ct_M_logged = true := by decide +kernel
theorem kk_M_logged : Chk GX 3000 308 ct_M_logged := ⟨ke_M_logged, fun pc as h => (show BT.AllP (fun pc as => ∀ a ∈ as, chkA GX 3000 308 ct_M_logged pc a = true) ct_M_logged.cut from trivial).at h⟩
theorem ke_M_forge : chkE GX 3000 309 ct_M_forge = true := by decide +kernel
theorem kk_M_forge : Chk GX 3000 309 ct_M_forge := ⟨ke_M_forge, fun pc as h => (show BT.AllP (fun pc as => ∀ a ∈ as, chkA GX 3000 309 ct_M_forge pc a = true) ct_M_forge.cut from trivial).at h⟩
theorem ke_M_wrong : chkE GX 3000 310 ct_M_wrong = true := by decide +kernel
theorem ka_M_wrong_2_0 : chkA GX 3000 310 ct_M_wrong 2 ca_M_wrong_2_0 = true := by decide +kernel
theorem kk_M_wrong : Chk GX 3000 310 ct_M_wrong := ⟨ke_M_wrong, fun pc as h => (show BT.AllP (fun pc as => ∀ a ∈ as, chkA GX 3000 310 ct_M_wrong pc a = true) ct_M_wrong.cut from ⟨⟨List.forall_mem_cons.mpr ⟨ka_M_wrong_2_0, fun a ha => by cases ha⟩, trivial⟩, trivial⟩).at h⟩
theorem ke_M_sealed : chkE GX 3000 311 ct_M_sealed = true := by decide +kernel
theorem ka_M_sealed_21_0 : chkA GX 3000 311 ct_M_sealed 21 ca_M_sealed_21_0 = true := by decide +kernel
theorem kk_M_sealed : Chk GX 3000 311 ct_M_sealed := ⟨ke_M_sealed, fun pc as h => (show BT.AllP (fun pc as => ∀ a ∈ as, chkA GX 3000 311 ct_M_sealed pc a = true) ct_M_sealed.cut from ⟨⟨List.forall_mem_cons.mpr ⟨ka_M_sealed_21_0, fun a ha => by cases ha⟩, trivial⟩, trivial⟩).at h⟩
theorem ke_M_group : chkE GX 3000 313 ct_M_group = true := by decide +kernel
theorem kk_M_group : Chk GX 3000 313 ct_M_group := ⟨ke_M_group, fun pc as h => (show BT.AllP (fun pc as => ∀ a ∈ as, chkA GX 3000 313 ct_M_group pc a = true) ct_M_group.cut from trivial).at h⟩
theorem ke_M_spreads : chkE GX 3000 317 ct_M_spreads = true := by decide +kernel
theorem ka_M_spreads_2_0 : chkA GX 3000 317 ct_M_spreads 2 ca_M_spreads_2_0 = true := by decide +kernel
theorem ka_M_spreads_11_0 : chkA GX 3000 317 ct_M_spreads 11 ca_M_spreads_11_0 = true := by decide +kernel
theorem kk_M_spreads : Chk GX 3000 317 ct_M_spreads := ⟨ke_M_spreads, fun pc as h => (show BT.AllP (fun pc as => ∀ a ∈ as, chkA GX 3000 317 ct_M_spreads pc a = true) ct_M_spreads.cut from ⟨⟨List.forall_mem_cons.mpr ⟨ka_M_spreads_2_0, fun a ha => by cases ha⟩, trivial⟩, ⟨List.forall_mem_cons.mpr ⟨ka_M_spreads_11_0, fun a ha => by cases ha⟩, trivial⟩, trivial⟩).at h⟩
theorem ke_M_reaches : chkE GX 3000 318 ct_M_reaches = true := by decide +kernel
theorem ka_M_reaches_3_0 : chkA GX 3000 318 ct_M_reaches 3 ca_M_reaches_3_0 = true := by decide +kernel
theorem ka_M_reaches_27_0 : chkA GX 3000 318 ct_M_reaches 27 ca_M_reaches_27_0 = true := by decide +kernel
theorem kk_M_reaches : Chk GX 3000 318 ct_M_reaches := ⟨ke_M_reaches, fun pc as h => (show BT.AllP (fun pc as => ∀ a ∈ as, chkA GX 3000 318 ct_M_reaches pc a = true) ct_M_reaches.cut from ⟨⟨List.forall_mem_cons.mpr ⟨ka_M_reaches_3_0, fun a ha => by cases ha⟩, trivial⟩, ⟨List.forall_mem_cons.mpr ⟨ka_M_reaches_27_0, fun a ha => by cases ha⟩, trivial⟩, trivial⟩).at h⟩
theorem ke_M_isIn : chkE GX 3000 319 ct_M_isIn = true := by decide +kernel
theorem kk_M_isIn : Chk GX 3000 319 ct_M_isIn := ⟨ke_M_isIn, fun pc as h => (show BT.AllP (fun pc as => ∀ a ∈ as, chkA GX 3000 319 ct_M_isIn pc a = true) ct_M_isIn.cut from trivial).at h⟩
theorem ke_M_put : chkE GX 3000 321 ct_M_put = true := by decide +kernel
theorem ka_M_put_77_0 : chkA GX 3000 321 ct_M_put 77 ca_M_put_77_0 = true := by decide +kernel
theorem ka_M_put_111_0 : chkA GX 3000 321 ct_M_put 111 ca_M_put_111_0 = true := by decide +kernel
theorem ka_M_put_122_0 : chkA GX 3000 321 ct_M_put 122 ca_M_put_122_0 = true := by decide +kernel
theorem kk_M_put : Chk GX 3000 321 ct_M_put := ⟨ke_M_put, fun pc as h => (show BT.AllP (fun pc as => ∀ a ∈ as, chkA GX 3000 321 ct_M_put pc a = true) ct_M_put.cut from ⟨⟨List.forall_mem_cons.mpr ⟨ka_M_put_77_0, fun a ha => by cases ha⟩, trivial⟩, ⟨List.forall_mem_cons.mpr ⟨ka_M_put_111_0, fun a ha => by cases ha⟩, trivial⟩, ⟨List.forall_mem_cons.mpr ⟨ka_M_put_122_0, fun a ha => by cases ha⟩, trivial⟩, trivial⟩).at h⟩
theorem ke_M_back : chkE GX 3000 322 ct_M_back = true := by decide +kernel
theorem kk_M_back : Chk GX 3000 322 ct_M_back := ⟨ke_M_back, fun pc as h => (show BT.AllP (fun pc as => ∀ a ∈ as, chkA GX 3000 322 ct_M_back pc a = true) ct_M_back.cut from trivial).at h⟩
theorem ke_M_belongs : chkE GX 3000 323 ct_M_belongs = true := by decide +kernel
theorem kk_M_belongs : Chk GX 3000 323 ct_M_belongs := ⟨ke_M_belongs, fun pc as h => (show BT.AllP (fun pc as => ∀ a ∈ as, chkA GX 3000 323 ct_M_belongs pc a = true) ct_M_belongs.cut from trivial).at h⟩
theorem ke_M_rowOf : chkE GX 3000 324 ct_M_rowOf = true := by decide +kernel
theorem kk_M_rowOf : Chk GX 3000 324 ct_M_rowOf := ⟨ke_M_rowOf, fun pc as h => (show BT.AllP (fun pc as => ∀ a ∈ as, chkA GX 3000 324 ct_M_rowOf pc a = true) ct_M_rowOf.cut from trivial).at h⟩
theorem ke_M_begins : chkE GX 3000 331 ct_M_begins = true := by decide +kernel
theorem ka_M_begins_30_0 : chkA GX 3000 331 ct_M_begins 30 ca_M_begins_30_0 = true := by decide +kernel
theorem kk_M_begins : Chk GX 3000 331 ct_M_begins := ⟨ke_M_begins, fun pc as h => (show BT.AllP (fun pc as => ∀ a ∈ as, chkA GX 3000 331 ct_M_begins pc a = true) ct_M_begins.cut from ⟨⟨List.forall_mem_cons.mpr ⟨ka_M_begins_30_0, fun a ha => by cases ha⟩, trivial⟩, trivial⟩).at h⟩
theorem ke_M_depthOf : chkE GX 3000 337 ct_M_depthOf = true := by decide +kernel
theorem ka_M_depthOf_9_0 : chkA GX 3000 337 ct_M_depthOf 9 ca_M_depthOf_9_0 = true := by decide +kernel
theorem kk_M_depthOf : Chk GX 3000 337 ct_M_depthOf := ⟨ke_M_depthOf, fun pc as h => (show BT.AllP (fun pc as => ∀ a ∈ as, chkA GX 3000 337 ct_M_depthOf pc a = true) ct_M_depthOf.cut from ⟨⟨List.forall_mem_cons.mpr ⟨ka_M_depthOf_9_0, fun a ha => by cases ha⟩, trivial⟩, trivial⟩).at h⟩
theorem ke_M_thingOf : chkE GX 3000 338 ct_M_thingOf = true := by decide +kernel
theorem kk_M_thingOf : Chk GX 3000 338 ct_M_thingOf := ⟨ke_M_thingOf, fun pc as h => (show BT.AllP (fun pc as => ∀ a ∈ as, chkA GX 3000 338 ct_M_thingOf pc a = true) ct_M_thingOf.cut from trivial).at h⟩
theorem ke_M_isUnder : chkE GX 3000 339 ct_M_isUnder = true := by decide +kernel
theorem ka_M_isUnder_2_0 : chkA GX 3000 339 ct_M_isUnder 2 ca_M_isUnder_2_0 = true := by decide +kernel
theorem kk_M_isUnder : Chk GX 3000 339 ct_M_isUnder := ⟨ke_M_isUnder, fun pc as h => (show BT.AllP (fun pc as => ∀ a ∈ as, chkA GX 3000 339 ct_M_isUnder pc a = true) ct_M_isUnder.cut from ⟨⟨List.forall_mem_cons.mpr ⟨ka_M_isUnder_2_0, fun a ha => by cases ha⟩, trivial⟩, trivial⟩).at h⟩
theorem ke_M_under : chkE GX 3000 340 ct_M_under = true := by decide +kernel
theorem kk_M_under : Chk GX 3000 340 ct_M_under := ⟨ke_M_under, fun pc as h => (show BT.AllP (fun pc as => ∀ a ∈ as, chkA GX 3000 340 ct_M_under pc a = true) ct_M_under.cut from trivial).at h⟩
theorem ke_M_holds : chkE GX 3000 341 ct_M_holds = true := by decide +kernel
theorem kk_M_holds : Chk GX 3000 341 ct_M_holds := ⟨ke_M_holds, fun pc as h => (show BT.AllP (fun pc as => ∀ a ∈ as, chkA GX 3000 341 ct_M_holds pc a = true) ct_M_holds.cut from trivial).at h⟩
theorem ke_M_heldBy : chkE GX 3000 342 ct_M_heldBy = true := by decide +kernel
theorem ka_M_heldBy_10_0 : chkA GX 3000 342 ct_M_heldBy 10 ca_M_heldBy_10_0 = true := by decide +kernel
theorem ka_M_heldBy_10_1 : chkA GX 3000 342 ct_M_heldBy 10 ca_M_heldBy_10_1 = true := by decide +kernel
theorem ka_M_heldBy_20_0 : chkA GX 3000 342 ct_M_heldBy 20 ca_M_heldBy_20_0 = true := by decide +kernel
theorem ka_M_heldBy_30_0 : chkA GX 3000 342 ct_M_heldBy 30 ca_M_heldBy_30_0 = true := by decide +kernel
theorem kk_M_heldBy : Chk GX 3000 342 ct_M_heldBy := ⟨ke_M_heldBy, fun pc as h => (show BT.AllP (fun pc as => ∀ a ∈ as, chkA GX 3000 342 ct_M_heldBy pc a = true) ct_M_heldBy.cut from ⟨⟨List.forall_mem_cons.mpr ⟨ka_M_heldBy_10_0, List.forall_mem_cons.mpr ⟨ka_M_heldBy_10_1, fun a ha => by cases ha⟩⟩, trivial⟩, ⟨List.forall_mem_cons.mpr ⟨ka_M_heldBy_20_0, fun a ha => by cases ha⟩, trivial⟩, ⟨List.forall_mem_cons.mpr ⟨ka_M_heldBy_30_0, fun a ha => by cases ha⟩, trivial⟩, trivial⟩).at h⟩
theorem ke_M_isHeld : chkE GX 3000 343 ct_M_isHeld = true := by decide +kernel
theorem kk_M_isHeld : Chk GX 3000 343 ct_M_isHeld := ⟨ke_M_isHeld, fun pc as h => (show BT.AllP (fun pc as => ∀ a ∈ as, chkA GX 3000 343 ct_M_isHeld pc a = true) ct_M_isHeld.cut from trivial).at h⟩
theorem ke_M_doesHold : chkE GX 3000 344 ct_M_doesHold = true := by decide +kernel
theorem kk_M_doesHold : Chk GX 3000 344 ct_M_doesHold := ⟨ke_M_doesHold, fun pc as h => (show BT.AllP (fun pc as => ∀ a ∈ as, chkA GX 3000 344 ct_M_doesHold pc a = true) ct_M_doesHold.cut from trivial).at h⟩
theorem ke_M_number : chkE GX 3000 348 ct_M_number = true := by decide +kernel
theorem ka_M_number_0_0 : chkA GX 3000 348 ct_M_number 0 ca_M_number_0_0 = true := by decide +kernel
theorem ka_M_number_0_1 : chkA GX 3000 348 ct_M_number 0 ca_M_number_0_1 = true := by decide +kernel
theorem ka_M_number_143_0 : chkA GX 3000 348 ct_M_number 143 ca_M_number_143_0 = true := by decide +kernel
theorem kk_M_number : Chk GX 3000 348 ct_M_number := ⟨ke_M_number, fun pc as h => (show BT.AllP (fun pc as => ∀ a ∈ as, chkA GX 3000 348 ct_M_number pc a = true) ct_M_number.cut from ⟨⟨List.forall_mem_cons.mpr ⟨ka_M_number_0_0, List.forall_mem_cons.mpr ⟨ka_M_number_0_1, fun a ha => by cases ha⟩⟩, trivial⟩, ⟨List.forall_mem_cons.mpr ⟨ka_M_number_143_0, fun a ha => by cases ha⟩, trivial⟩, trivial⟩).at h⟩
theorem ke_M_sign : chkE GX 3000 349 ct_M_sign = true := by decide +kernel
theorem kk_M_sign : Chk GX 3000 349 ct_M_sign := ⟨ke_M_sign, fun pc as h => (show BT.AllP (fun pc as => ∀ a ∈ as, chkA GX 3000 349 ct_M_sign pc a = true) ct_M_sign.cut from trivial).at h⟩
theorem ke_M_token : chkE GX 3000 350 ct_M_token = true := by decide +kernel
theorem ka_M_token_0_0 : chkA GX 3000 350 ct_M_token 0 ca_M_token_0_0 = true := by decide +kernel
theorem ka_M_token_85_0 : chkA GX 3000 350 ct_M_token 85 ca_M_token_85_0 = true := by decide +kernel
