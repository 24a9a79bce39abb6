theorem ke_H_feed : chkE GXL9 3000 1 ct_H_feed = true := by decide +kernel
theorem ka_H_feed_33_0 : chkA GXL9 3000 1 ct_H_feed 33 ca_H_feed_33_0 = true := by decide +kernel
theorem kk_H_feed : Chk GXL9 3000 1 ct_H_feed := ⟨ke_H_feed, fun pc as h => (show BT.AllP (fun pc as => ∀ a ∈ as, chkA GXL9 3000 1 ct_H_feed pc a = true) ct_H_feed.cut from ⟨⟨List.forall_mem_cons.mpr ⟨ka_H_feed_33_0, fun a ha => by cases ha⟩, trivial⟩, trivial⟩).at h⟩
theorem ke_H_cut : chkE GXL9 3000 2 ct_H_cut = true := by decide +kernel
theorem kk_H_cut : Chk GXL9 3000 2 ct_H_cut := ⟨ke_H_cut, fun pc as h => (show BT.AllP (fun pc as => ∀ a ∈ as, chkA GXL9 3000 2 ct_H_cut pc a = true) ct_H_cut.cut from trivial).at h⟩
theorem ke_H_group : chkE GXL9 3000 8 ct_H_group = true := by decide +kernel
theorem kk_H_group : Chk GXL9 3000 8 ct_H_group := ⟨ke_H_group, fun pc as h => (show BT.AllP (fun pc as => ∀ a ∈ as, chkA GXL9 3000 8 ct_H_group pc a = true) ct_H_group.cut from trivial).at h⟩
theorem ke_Wh_reachedFromL9 : chkE GXL9 3000 15 ct_Wh_reachedFromL9 = true := by decide +kernel
theorem ka_Wh_reachedFrom_6_0L9 : chkA GXL9 3000 15 ct_Wh_reachedFromL9 6 ca_Wh_reachedFrom_6_0L9 = true := by decide +kernel
theorem ka_Wh_reachedFrom_20_0L9 : chkA GXL9 3000 15 ct_Wh_reachedFromL9 20 ca_Wh_reachedFrom_20_0L9 = true := by decide +kernel
theorem kk_Wh_reachedFromL9 : Chk GXL9 3000 15 ct_Wh_reachedFromL9 := ⟨ke_Wh_reachedFromL9, fun pc as h => (show BT.AllP (fun pc as => ∀ a ∈ as, chkA GXL9 3000 15 ct_Wh_reachedFromL9 pc a = true) ct_Wh_reachedFromL9.cut from ⟨⟨List.forall_mem_cons.mpr ⟨ka_Wh_reachedFrom_6_0L9, fun a ha => by cases ha⟩, trivial⟩, ⟨List.forall_mem_cons.mpr ⟨ka_Wh_reachedFrom_20_0L9, fun a ha => by cases ha⟩, trivial⟩, trivial⟩).at h⟩
theorem ke_Wh_wouldRing : chkE GXL9 3000 16 ct_Wh_wouldRing = true := by decide +kernel
theorem kk_Wh_wouldRing : Chk GXL9 3000 16 ct_Wh_wouldRing := ⟨ke_Wh_wouldRing, fun pc as h => (show BT.AllP (fun pc as => ∀ a ∈ as, chkA GXL9 3000 16 ct_Wh_wouldRing pc a = true) ct_Wh_wouldRing.cut from trivial).at h⟩
theorem ke_H_put : chkE GXL9 3000 18 ct_H_put = true := by decide +kernel
theorem kk_H_put : Chk GXL9 3000 18 ct_H_put := ⟨ke_H_put, fun pc as h => (show BT.AllP (fun pc as => ∀ a ∈ as, chkA GXL9 3000 18 ct_H_put pc a = true) ct_H_put.cut from trivial).at h⟩
theorem ke_H_back : chkE GXL9 3000 20 ct_H_back = true := by decide +kernel
theorem kk_H_back : Chk GXL9 3000 20 ct_H_back := ⟨ke_H_back, fun pc as h => (show BT.AllP (fun pc as => ∀ a ∈ as, chkA GXL9 3000 20 ct_H_back pc a = true) ct_H_back.cut from trivial).at h⟩
theorem ke_Wh_groupsOfL9 : chkE GXL9 3000 21 ct_Wh_groupsOfL9 = true := by decide +kernel
theorem ka_Wh_groupsOf_6_0L9 : chkA GXL9 3000 21 ct_Wh_groupsOfL9 6 ca_Wh_groupsOf_6_0L9 = true := by decide +kernel
theorem kk_Wh_groupsOfL9 : Chk GXL9 3000 21 ct_Wh_groupsOfL9 := ⟨ke_Wh_groupsOfL9, fun pc as h => (show BT.AllP (fun pc as => ∀ a ∈ as, chkA GXL9 3000 21 ct_Wh_groupsOfL9 pc a = true) ct_Wh_groupsOfL9.cut from ⟨⟨List.forall_mem_cons.mpr ⟨ka_Wh_groupsOf_6_0L9, fun a ha => by cases ha⟩, trivial⟩, trivial⟩).at h⟩
theorem ke_H_belongsL9 : chkE GXL9 3000 22 ct_H_belongsL9 = true := by decide +kernel
theorem kk_H_belongsL9 : Chk GXL9 3000 22 ct_H_belongsL9 := ⟨ke_H_belongsL9, fun pc as h => (show BT.AllP (fun pc as => ∀ a ∈ as, chkA GXL9 3000 22 ct_H_belongsL9 pc a = true) ct_H_belongsL9.cut from trivial).at h⟩
theorem ke_H_rowOfL9 : chkE GXL9 3000 23 ct_H_rowOfL9 = true := by decide +kernel
theorem kk_H_rowOfL9 : Chk GXL9 3000 23 ct_H_rowOfL9 := ⟨ke_H_rowOfL9, fun pc as h => (show BT.AllP (fun pc as => ∀ a ∈ as, chkA GXL9 3000 23 ct_H_rowOfL9 pc a = true) ct_H_rowOfL9.cut from trivial).at h⟩
theorem ke_Wh_setFeature : chkE GXL9 3000 28 ct_Wh_setFeatureL9 = true := by decide +kernel
theorem ka_Wh_setFeature_17_0 : chkA GXL9 3000 28 ct_Wh_setFeatureL9 17 ca_Wh_setFeature_17_0 = true := by decide +kernel
theorem kk_Wh_setFeature : Chk GXL9 3000 28 ct_Wh_setFeatureL9 := ⟨ke_Wh_setFeature, fun pc as h => (show BT.AllP (fun pc as => ∀ a ∈ as, chkA GXL9 3000 28 ct_Wh_setFeatureL9 pc a = true) ct_Wh_setFeatureL9.cut from ⟨⟨List.forall_mem_cons.mpr ⟨ka_Wh_setFeature_17_0, fun a ha => by cases ha⟩, trivial⟩, trivial⟩).at h⟩
theorem ke_H_feature : chkE GXL9 3000 29 ct_H_featureL9 = true := by decide +kernel
theorem kk_H_feature : Chk GXL9 3000 29 ct_H_featureL9 := ⟨ke_H_feature, fun pc as h => (show BT.AllP (fun pc as => ∀ a ∈ as, chkA GXL9 3000 29 ct_H_featureL9 pc a = true) ct_H_featureL9.cut from trivial).at h⟩
theorem ke_H_item : chkE GXL9 3000 32 ct_H_itemL9 = true := by decide +kernel
theorem kk_H_item : Chk GXL9 3000 32 ct_H_itemL9 := ⟨ke_H_item, fun pc as h => (show BT.AllP (fun pc as => ∀ a ∈ as, chkA GXL9 3000 32 ct_H_itemL9 pc a = true) ct_H_itemL9.cut from trivial).at h⟩
theorem ke_H_itemOfL9 : chkE GXL9 3000 33 ct_H_itemOfL9 = true := by decide +kernel
theorem kk_H_itemOfL9 : Chk GXL9 3000 33 ct_H_itemOfL9 := ⟨ke_H_itemOfL9, fun pc as h => (show BT.AllP (fun pc as => ∀ a ∈ as, chkA GXL9 3000 33 ct_H_itemOfL9 pc a = true) ct_H_itemOfL9.cut from trivial).at h⟩
theorem ke_H_copy : chkE GXL9 3000 35 ct_H_copyL9 = true := by decide +kernel
theorem kk_H_copy : Chk GXL9 3000 35 ct_H_copyL9 := ⟨ke_H_copy, fun pc as h => (show BT.AllP (fun pc as => ∀ a ∈ as, chkA GXL9 3000 35 ct_H_copyL9 pc a = true) ct_H_copyL9.cut from trivial).at h⟩
theorem ke_Th_isInside : chkE GXL9 3000 38 ct_Th_isInsideL9 = true := by decide +kernel
theorem ka_Th_isInside_5_0 : chkA GXL9 3000 38 ct_Th_isInsideL9 5 ca_Th_isInside_5_0L9 = true := by decide +kernel
theorem kk_Th_isInside : Chk GXL9 3000 38 ct_Th_isInsideL9 := ⟨ke_Th_isInside, fun pc as h => (show BT.AllP (fun pc as => ∀ a ∈ as, chkA GXL9 3000 38 ct_Th_isInsideL9 pc a = true) ct_Th_isInsideL9.cut from ⟨⟨List.forall_mem_cons.mpr ⟨ka_Th_isInside_5_0, fun a ha => by cases ha⟩, trivial⟩, trivial⟩).at h⟩
theorem ke_Th_bearsAny : chkE GXL9 3000 41 ct_Th_bearsAnyL9 = true := by decide +kernel
theorem ka_Th_bearsAny_2_0 : chkA GXL9 3000 41 ct_Th_bearsAnyL9 2 ca_Th_bearsAny_2_0L9 = true := by decide +kernel
theorem ka_Th_bearsAny_2_1 : chkA GXL9 3000 41 ct_Th_bearsAnyL9 2 ca_Th_bearsAny_2_1L9 = true := by decide +kernel
theorem kk_Th_bearsAny : Chk GXL9 3000 41 ct_Th_bearsAnyL9 := ⟨ke_Th_bearsAny, fun pc as h => (show BT.AllP (fun pc as => ∀ a ∈ as, chkA GXL9 3000 41 ct_Th_bearsAnyL9 pc a = true) ct_Th_bearsAnyL9.cut from ⟨⟨List.forall_mem_cons.mpr ⟨ka_Th_bearsAny_2_0, List.forall_mem_cons.mpr ⟨ka_Th_bearsAny_2_1, fun a ha => by cases ha⟩⟩, trivial⟩, trivial⟩).at h⟩
theorem ke_Th_depthOfL9 : chkE GXL9 3000 43 ct_Th_depthOfL9 = true := by decide +kernel
theorem ka_Th_depthOf_12_0L9 : chkA GXL9 3000 43 ct_Th_depthOfL9 12 ca_Th_depthOf_12_0L9 = true := by decide +kernel
theorem kk_Th_depthOfL9 : Chk GXL9 3000 43 ct_Th_depthOfL9 := ⟨ke_Th_depthOfL9, fun pc as h => (show BT.AllP (fun pc as => ∀ a ∈ as, chkA GXL9 3000 43 ct_Th_depthOfL9 pc a = true) ct_Th_depthOfL9.cut from ⟨⟨List.forall_mem_cons.mpr ⟨ka_Th_depthOf_12_0L9, fun a ha => by cases ha⟩, trivial⟩, trivial⟩).at h⟩
theorem ke_H_thingOfL9 : chkE GXL9 3000 44 ct_H_thingOfL9 = true := by decide +kernel
theorem kk_H_thingOfL9 : Chk GXL9 3000 44 ct_H_thingOfL9 := ⟨ke_H_thingOfL9, fun pc as h => (show BT.AllP (fun pc as => ∀ a ∈ as, chkA GXL9 3000 44 ct_H_thingOfL9 pc a = true) ct_H_thingOfL9.cut from trivial).at h⟩
theorem ke_Th_isUnderL9 : chkE GXL9 3000 45 ct_Th_isUnderL9 = true := by decide +kernel
theorem ka_Th_isUnder_5_0L9 : chkA GXL9 3000 45 ct_Th_isUnderL9 5 ca_Th_isUnder_5_0 = true := by decide +kernel
theorem kk_Th_isUnderL9 : Chk GXL9 3000 45 ct_Th_isUnderL9 := ⟨ke_Th_isUnderL9, fun pc as h => (show BT.AllP (fun pc as => ∀ a ∈ as, chkA GXL9 3000 45 ct_Th_isUnderL9 pc a = true) ct_Th_isUnderL9.cut from ⟨⟨List.forall_mem_cons.mpr ⟨ka_Th_isUnder_5_0L9, fun a ha => by cases ha⟩, trivial⟩, trivial⟩).at h⟩
theorem ke_H_underL9 : chkE GXL9 3000 46 ct_H_underL9 = true := by decide +kernel
theorem kk_H_underL9 : Chk GXL9 3000 46 ct_H_underL9 := ⟨ke_H_underL9, fun pc as h => (show BT.AllP (fun pc as => ∀ a ∈ as, chkA GXL9 3000 46 ct_H_underL9 pc a = true) ct_H_underL9.cut from trivial).at h⟩
theorem ke_H_doesHoldL9 : chkE GXL9 3000 51 ct_H_doesHoldL9 = true := by decide +kernel
theorem kk_H_doesHoldL9 : Chk GXL9 3000 51 ct_H_doesHoldL9 := ⟨ke_H_doesHoldL9, fun pc as h => (show BT.AllP (fun pc as => ∀ a ∈ as, chkA GXL9 3000 51 ct_H_doesHoldL9 pc a = true) ct_H_doesHoldL9.cut from trivial).at h⟩
theorem ke_Re_packedL9 : chkE GXL9 3000 54 ct_Re_packedL9 = true := by decide +kernel
theorem ka_Re_packed_18_0L9 : chkA GXL9 3000 54 ct_Re_packedL9 18 ca_Re_packed_18_0L9 = true := by decide +kernel
theorem kk_Re_packedL9 : Chk GXL9 3000 54 ct_Re_packedL9 := ⟨ke_Re_packedL9, fun pc as h => (show BT.AllP (fun pc as => ∀ a ∈ as, chkA GXL9 3000 54 ct_Re_packedL9 pc a = true) ct_Re_packedL9.cut from ⟨⟨List.forall_mem_cons.mpr ⟨ka_Re_packed_18_0L9, fun a ha => by cases ha⟩, trivial⟩, trivial⟩).at h⟩
theorem ke_Re_ofWholeL9 : chkE GXL9 3000 55 ct_Re_ofWhole = true := by decide +kernel
theorem kk_Re_ofWholeL9 : Chk GXL9 3000 55 ct_Re_ofWhole := ⟨ke_Re_ofWholeL9, fun pc as h => (show BT.AllP (fun pc as => ∀ a ∈ as, chkA GXL9 3000 55 ct_Re_ofWhole pc a = true) ct_Re_ofWhole.cut from trivial).at h⟩
theorem ke_Re_shortageL9 : chkE GXL9 3000 59 ct_Re_shortageL9 = true := by decide +kernel
theorem ka_Re_shortage_2_0L9 : chkA GXL9 3000 59 ct_Re_shortageL9 2 ca_Re_shortage_2_0L9 = true := by decide +kernel
theorem kk_Re_shortageL9 : Chk GXL9 3000 59 ct_Re_shortageL9 := ⟨ke_Re_shortageL9, fun pc as h => (show BT.AllP (fun pc as => ∀ a ∈ as, chkA GXL9 3000 59 ct_Re_shortageL9 pc a = true) ct_Re_shortageL9.cut from ⟨⟨List.forall_mem_cons.mpr ⟨ka_Re_shortage_2_0L9, fun a ha => by cases ha⟩, trivial⟩, trivial⟩).at h⟩
