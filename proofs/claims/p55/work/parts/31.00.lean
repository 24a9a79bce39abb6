theorem ke_H_feed : chkE GX 3000 1 ct_H_feed = true := by decide +kernel
theorem ka_H_feed_33_0 : chkA GX 3000 1 ct_H_feed 33 ca_H_feed_33_0 = true := by decide +kernel
theorem kk_H_feed : Chk GX 3000 1 ct_H_feed := ⟨ke_H_feed, fun pc as h => (show BT.AllP (fun pc as => ∀ a ∈ as, chkA GX 3000 1 ct_H_feed pc a = true) ct_H_feed.cut from ⟨⟨List.forall_mem_cons.mpr ⟨ka_H_feed_33_0, fun a ha => by cases ha⟩, trivial⟩, trivial⟩).at h⟩
theorem ke_H_cut : chkE GX 3000 2 ct_H_cut = true := by decide +kernel
theorem kk_H_cut : Chk GX 3000 2 ct_H_cut := ⟨ke_H_cut, fun pc as h => (show BT.AllP (fun pc as => ∀ a ∈ as, chkA GX 3000 2 ct_H_cut pc a = true) ct_H_cut.cut from trivial).at h⟩
theorem ke_H_group : chkE GX 3000 8 ct_H_group = true := by decide +kernel
theorem kk_H_group : Chk GX 3000 8 ct_H_group := ⟨ke_H_group, fun pc as h => (show BT.AllP (fun pc as => ∀ a ∈ as, chkA GX 3000 8 ct_H_group pc a = true) ct_H_group.cut from trivial).at h⟩
theorem ke_Wh_reachedFrom : chkE GX 3000 15 ct_Wh_reachedFrom = true := by decide +kernel
theorem ka_Wh_reachedFrom_6_0 : chkA GX 3000 15 ct_Wh_reachedFrom 6 ca_Wh_reachedFrom_6_0 = true := by decide +kernel
theorem ka_Wh_reachedFrom_20_0 : chkA GX 3000 15 ct_Wh_reachedFrom 20 ca_Wh_reachedFrom_20_0 = true := by decide +kernel
theorem kk_Wh_reachedFrom : Chk GX 3000 15 ct_Wh_reachedFrom := ⟨ke_Wh_reachedFrom, fun pc as h => (show BT.AllP (fun pc as => ∀ a ∈ as, chkA GX 3000 15 ct_Wh_reachedFrom pc a = true) ct_Wh_reachedFrom.cut from ⟨⟨List.forall_mem_cons.mpr ⟨ka_Wh_reachedFrom_6_0, fun a ha => by cases ha⟩, trivial⟩, ⟨List.forall_mem_cons.mpr ⟨ka_Wh_reachedFrom_20_0, fun a ha => by cases ha⟩, trivial⟩, trivial⟩).at h⟩
theorem ke_Wh_wouldRing : chkE GX 3000 16 ct_Wh_wouldRing = true := by decide +kernel
theorem kk_Wh_wouldRing : Chk GX 3000 16 ct_Wh_wouldRing := ⟨ke_Wh_wouldRing, fun pc as h => (show BT.AllP (fun pc as => ∀ a ∈ as, chkA GX 3000 16 ct_Wh_wouldRing pc a = true) ct_Wh_wouldRing.cut from trivial).at h⟩
theorem ke_H_put : chkE GX 3000 18 ct_H_put = true := by decide +kernel
theorem kk_H_put : Chk GX 3000 18 ct_H_put := ⟨ke_H_put, fun pc as h => (show BT.AllP (fun pc as => ∀ a ∈ as, chkA GX 3000 18 ct_H_put pc a = true) ct_H_put.cut from trivial).at h⟩
theorem ke_H_back : chkE GX 3000 20 ct_H_back = true := by decide +kernel
theorem kk_H_back : Chk GX 3000 20 ct_H_back := ⟨ke_H_back, fun pc as h => (show BT.AllP (fun pc as => ∀ a ∈ as, chkA GX 3000 20 ct_H_back pc a = true) ct_H_back.cut from trivial).at h⟩
theorem ke_Wh_groupsOf : chkE GX 3000 21 ct_Wh_groupsOf = true := by decide +kernel
theorem ka_Wh_groupsOf_6_0 : chkA GX 3000 21 ct_Wh_groupsOf 6 ca_Wh_groupsOf_6_0 = true := by decide +kernel
theorem kk_Wh_groupsOf : Chk GX 3000 21 ct_Wh_groupsOf := ⟨ke_Wh_groupsOf, fun pc as h => (show BT.AllP (fun pc as => ∀ a ∈ as, chkA GX 3000 21 ct_Wh_groupsOf pc a = true) ct_Wh_groupsOf.cut from ⟨⟨List.forall_mem_cons.mpr ⟨ka_Wh_groupsOf_6_0, fun a ha => by cases ha⟩, trivial⟩, trivial⟩).at h⟩
theorem ke_H_belongs : chkE GX 3000 22 ct_H_belongs = true := by decide +kernel
theorem kk_H_belongs : Chk GX 3000 22 ct_H_belongs := ⟨ke_H_belongs, fun pc as h => (show BT.AllP (fun pc as => ∀ a ∈ as, chkA GX 3000 22 ct_H_belongs pc a = true) ct_H_belongs.cut from trivial).at h⟩
theorem ke_H_rowOf : chkE GX 3000 23 ct_H_rowOf = true := by decide +kernel
theorem kk_H_rowOf : Chk GX 3000 23 ct_H_rowOf := ⟨ke_H_rowOf, fun pc as h => (show BT.AllP (fun pc as => ∀ a ∈ as, chkA GX 3000 23 ct_H_rowOf pc a = true) ct_H_rowOf.cut from trivial).at h⟩
theorem ke_Wh_setFeature : chkE GX 3000 28 ct_Wh_setFeature = true := by decide +kernel
theorem ka_Wh_setFeature_17_0 : chkA GX 3000 28 ct_Wh_setFeature 17 ca_Wh_setFeature_17_0 = true := by decide +kernel
theorem kk_Wh_setFeature : Chk GX 3000 28 ct_Wh_setFeature := ⟨ke_Wh_setFeature, fun pc as h => (show BT.AllP (fun pc as => ∀ a ∈ as, chkA GX 3000 28 ct_Wh_setFeature pc a = true) ct_Wh_setFeature.cut from ⟨⟨List.forall_mem_cons.mpr ⟨ka_Wh_setFeature_17_0, fun a ha => by cases ha⟩, trivial⟩, trivial⟩).at h⟩
theorem ke_H_feature : chkE GX 3000 29 ct_H_feature = true := by decide +kernel
theorem kk_H_feature : Chk GX 3000 29 ct_H_feature := ⟨ke_H_feature, fun pc as h => (show BT.AllP (fun pc as => ∀ a ∈ as, chkA GX 3000 29 ct_H_feature pc a = true) ct_H_feature.cut from trivial).at h⟩
theorem ke_H_item : chkE GX 3000 32 ct_H_item = true := by decide +kernel
theorem kk_H_item : Chk GX 3000 32 ct_H_item := ⟨ke_H_item, fun pc as h => (show BT.AllP (fun pc as => ∀ a ∈ as, chkA GX 3000 32 ct_H_item pc a = true) ct_H_item.cut from trivial).at h⟩
theorem ke_H_itemOf : chkE GX 3000 33 ct_H_itemOf = true := by decide +kernel
theorem kk_H_itemOf : Chk GX 3000 33 ct_H_itemOf := ⟨ke_H_itemOf, fun pc as h => (show BT.AllP (fun pc as => ∀ a ∈ as, chkA GX 3000 33 ct_H_itemOf pc a = true) ct_H_itemOf.cut from trivial).at h⟩
theorem ke_H_copy : chkE GX 3000 35 ct_H_copy = true := by decide +kernel
theorem kk_H_copy : Chk GX 3000 35 ct_H_copy := ⟨ke_H_copy, fun pc as h => (show BT.AllP (fun pc as => ∀ a ∈ as, chkA GX 3000 35 ct_H_copy pc a = true) ct_H_copy.cut from trivial).at h⟩
theorem ke_Th_isInside : chkE GX 3000 38 ct_Th_isInside = true := by decide +kernel
theorem ka_Th_isInside_5_0 : chkA GX 3000 38 ct_Th_isInside 5 ca_Th_isInside_5_0 = true := by decide +kernel
theorem kk_Th_isInside : Chk GX 3000 38 ct_Th_isInside := ⟨ke_Th_isInside, fun pc as h => (show BT.AllP (fun pc as => ∀ a ∈ as, chkA GX 3000 38 ct_Th_isInside pc a = true) ct_Th_isInside.cut from ⟨⟨List.forall_mem_cons.mpr ⟨ka_Th_isInside_5_0, fun a ha => by cases ha⟩, trivial⟩, trivial⟩).at h⟩
theorem ke_Th_bearsAny : chkE GX 3000 41 ct_Th_bearsAny = true := by decide +kernel
theorem ka_Th_bearsAny_2_0 : chkA GX 3000 41 ct_Th_bearsAny 2 ca_Th_bearsAny_2_0 = true := by decide +kernel
theorem ka_Th_bearsAny_2_1 : chkA GX 3000 41 ct_Th_bearsAny 2 ca_Th_bearsAny_2_1 = true := by decide +kernel
theorem kk_Th_bearsAny : Chk GX 3000 41 ct_Th_bearsAny := ⟨ke_Th_bearsAny, fun pc as h => (show BT.AllP (fun pc as => ∀ a ∈ as, chkA GX 3000 41 ct_Th_bearsAny pc a = true) ct_Th_bearsAny.cut from ⟨⟨List.forall_mem_cons.mpr ⟨ka_Th_bearsAny_2_0, List.forall_mem_cons.mpr ⟨ka_Th_bearsAny_2_1, fun a ha => by cases ha⟩⟩, trivial⟩, trivial⟩).at h⟩
theorem ke_Th_depthOf : chkE GX 3000 43 ct_Th_depthOf = true := by decide +kernel
theorem ka_Th_depthOf_12_0 : chkA GX 3000 43 ct_Th_depthOf 12 ca_Th_depthOf_12_0 = true := by decide +kernel
theorem kk_Th_depthOf : Chk GX 3000 43 ct_Th_depthOf := ⟨ke_Th_depthOf, fun pc as h => (show BT.AllP (fun pc as => ∀ a ∈ as, chkA GX 3000 43 ct_Th_depthOf pc a = true) ct_Th_depthOf.cut from ⟨⟨List.forall_mem_cons.mpr ⟨ka_Th_depthOf_12_0, fun a ha => by cases ha⟩, trivial⟩, trivial⟩).at h⟩
theorem ke_H_thingOf : chkE GX 3000 44 ct_H_thingOf = true := by decide +kernel
theorem kk_H_thingOf : Chk GX 3000 44 ct_H_thingOf := ⟨ke_H_thingOf, fun pc as h => (show BT.AllP (fun pc as => ∀ a ∈ as, chkA GX 3000 44 ct_H_thingOf pc a = true) ct_H_thingOf.cut from trivial).at h⟩
theorem ke_Th_isUnder : chkE GX 3000 45 ct_Th_isUnder = true := by decide +kernel
theorem ka_Th_isUnder_5_0 : chkA GX 3000 45 ct_Th_isUnder 5 ca_Th_isUnder_5_0 = true := by decide +kernel
theorem kk_Th_isUnder : Chk GX 3000 45 ct_Th_isUnder := ⟨ke_Th_isUnder, fun pc as h => (show BT.AllP (fun pc as => ∀ a ∈ as, chkA GX 3000 45 ct_Th_isUnder pc a = true) ct_Th_isUnder.cut from ⟨⟨List.forall_mem_cons.mpr ⟨ka_Th_isUnder_5_0, fun a ha => by cases ha⟩, trivial⟩, trivial⟩).at h⟩
theorem ke_H_under : chkE GX 3000 46 ct_H_under = true := by decide +kernel
theorem kk_H_under : Chk GX 3000 46 ct_H_under := ⟨ke_H_under, fun pc as h => (show BT.AllP (fun pc as => ∀ a ∈ as, chkA GX 3000 46 ct_H_under pc a = true) ct_H_under.cut from trivial).at h⟩
theorem ke_H_doesHold : chkE GX 3000 51 ct_H_doesHold = true := by decide +kernel
theorem kk_H_doesHold : Chk GX 3000 51 ct_H_doesHold := ⟨ke_H_doesHold, fun pc as h => (show BT.AllP (fun pc as => ∀ a ∈ as, chkA GX 3000 51 ct_H_doesHold pc a = true) ct_H_doesHold.cut from trivial).at h⟩
theorem ke_Re_packed : chkE GX 3000 54 ct_Re_packed = true := by decide +kernel
theorem ka_Re_packed_18_0 : chkA GX 3000 54 ct_Re_packed 18 ca_Re_packed_18_0 = true := by decide +kernel
theorem kk_Re_packed : Chk GX 3000 54 ct_Re_packed := ⟨ke_Re_packed, fun pc as h => (show BT.AllP (fun pc as => ∀ a ∈ as, chkA GX 3000 54 ct_Re_packed pc a = true) ct_Re_packed.cut from ⟨⟨List.forall_mem_cons.mpr ⟨ka_Re_packed_18_0, fun a ha => by cases ha⟩, trivial⟩, trivial⟩).at h⟩
theorem ke_Re_ofWhole : chkE GX 3000 55 ct_Re_ofWhole = true := by decide +kernel
theorem kk_Re_ofWhole : Chk GX 3000 55 ct_Re_ofWhole := ⟨ke_Re_ofWhole, fun pc as h => (show BT.AllP (fun pc as => ∀ a ∈ as, chkA GX 3000 55 ct_Re_ofWhole pc a = true) ct_Re_ofWhole.cut from trivial).at h⟩
theorem ke_Re_shortage : chkE GX 3000 59 ct_Re_shortage = true := by decide +kernel
theorem ka_Re_shortage_2_0 : chkA GX 3000 59 ct_Re_shortage 2 ca_Re_shortage_2_0 = true := by decide +kernel
theorem kk_Re_shortage : Chk GX 3000 59 ct_Re_shortage := ⟨ke_Re_shortage, fun pc as h => (show BT.AllP (fun pc as => ∀ a ∈ as, chkA GX 3000 59 ct_Re_shortage pc a = true) ct_Re_shortage.cut from ⟨⟨List.forall_mem_cons.mpr ⟨ka_Re_shortage_2_0, fun a ha => by cases ha⟩, trivial⟩, trivial⟩).at h⟩
