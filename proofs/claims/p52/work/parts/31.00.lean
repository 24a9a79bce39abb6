theorem ke_H_feed : chkE GX 3000 1 ct_H_feed = true := by decide +kernel
theorem ka_H_feed_33_0 : chkA GX 3000 1 ct_H_feed 33 ca_H_feed_33_0 = true := by decide +kernel
theorem kk_H_feed : Chk GX 3000 1 ct_H_feed := ⟨ke_H_feed, fun pc as h => (show BT.AllP (fun pc as => ∀ a ∈ as, chkA GX 3000 1 ct_H_feed pc a = true) ct_H_feed.cut from ⟨⟨List.forall_mem_cons.mpr ⟨ka_H_feed_33_0, fun a ha => by cases ha⟩, trivial⟩, trivial⟩).at h⟩
theorem ke_H_cut : chkE GX 3000 2 ct_H_cut = true := by decide +kernel
theorem kk_H_cut : Chk GX 3000 2 ct_H_cut := ⟨ke_H_cut, fun pc as h => (show BT.AllP (fun pc as => ∀ a ∈ as, chkA GX 3000 2 ct_H_cut pc a = true) ct_H_cut.cut from trivial).at h⟩
theorem ke_H_group : chkE GX 3000 8 ct_H_group = true := by decide +kernel
theorem kk_H_group : Chk GX 3000 8 ct_H_group := ⟨ke_H_group, fun pc as h => (show BT.AllP (fun pc as => ∀ a ∈ as, chkA GX 3000 8 ct_H_group pc a = true) ct_H_group.cut from trivial).at h⟩
theorem ke_Wh_reachedFrom : chkE GX 3000 15 ct_Wh_reachedFrom = true := by decide +kernel
theorem ka_Wh_reachedFrom_6_0 : chkA GX 3000 15 ct_Wh_reachedFrom 6 ca_Wh_reachedFrom_6_0 = true := by decide +kernel
theorem ka_Wh_reachedFrom_20_0 : chkA GX 3000 15 ct_Wh_reachedFrom 20 ca_Wh_reachedFrom_20_0 = true := by decide +kernel
theorem kk_Wh_reachedFrom : Chk GX 3000 15 ct_Wh_reachedFrom := ⟨ke_Wh_reachedFrom, fun pc as h => (show BT.AllP (fun pc as => ∀ a ∈ as, chkA GX 3000 15 ct_Wh_reachedFrom pc a = true) ct_Wh_reachedFrom.cut from ⟨⟨List.forall_mem_cons.mpr ⟨ka_Wh_reachedFrom_6_0, fun a ha => by cases ha⟩, trivial⟩, ⟨List.forall_mem_cons.mpr ⟨ka_Wh_reachedFrom_20_0, fun a ha => by cases ha⟩, trivial⟩, trivial⟩).at h⟩
theorem ke_Wh_wouldRing : chkE GX 3000 16 ct_Wh_wouldRing = true := by decide +kernel
theorem kk_Wh_wouldRing : Chk GX 3000 16 ct_Wh_wouldRing := ⟨ke_Wh_wouldRing, fun pc as h => (show BT.AllP (fun pc as => ∀ a ∈ as, chkA GX 3000 16 ct_Wh_wouldRing pc a = true) ct_Wh_wouldRing.cut from trivial).at h⟩
theorem ke_H_put : chkE GX 3000 18 ct_H_put = true := by decide +kernel
theorem kk_H_put : Chk GX 3000 18 ct_H_put := ⟨ke_H_put, fun pc as h => (show BT.AllP (fun pc as => ∀ a ∈ as, chkA GX 3000 18 ct_H_put pc a = true) ct_H_put.cut from trivial).at h⟩
theorem ke_H_back : chkE GX 3000 20 ct_H_back = true := by decide +kernel
theorem kk_H_back : Chk GX 3000 20 ct_H_back := ⟨ke_H_back, fun pc as h => (show BT.AllP (fun pc as => ∀ a ∈ as, chkA GX 3000 20 ct_H_back pc a = true) ct_H_back.cut from trivial).at h⟩
theorem ke_Wh_groupsOf : chkE GX 3000 21 ct_Wh_groupsOf = true := by decide +kernel
theorem ka_Wh_groupsOf_6_0 : chkA GX 3000 21 ct_Wh_groupsOf 6 ca_Wh_groupsOf_6_0 = true := by decide +kernel
theorem kk_Wh_groupsOf : Chk GX 3000 21 ct_Wh_groupsOf := ⟨ke_Wh_groupsOf, fun pc as h => (show BT.AllP (fun pc as => ∀ a ∈ as, chkA GX 3000 21 ct_Wh_groupsOf pc a = true) ct_Wh_groupsOf.cut from ⟨⟨List.forall_mem_cons.mpr ⟨ka_Wh_groupsOf_6_0, fun a ha => by cases ha⟩, trivial⟩, trivial⟩).at h⟩
theorem ke_H_belongs : chkE GX 3000 22 ct_H_belongs = true := by decide +kernel
theorem kk_H_belongs : Chk GX 3000 22 ct_H_belongs := ⟨ke_H_belongs, fun pc as h => (show BT.AllP (fun pc as => ∀ a ∈ as, chkA GX 3000 22 ct_H_belongs pc a = true) ct_H_belongs.cut from trivial).at h⟩
theorem ke_H_rowOf : chkE GX 3000 23 ct_H_rowOf = true := by decide +kernel
theorem kk_H_rowOf : Chk GX 3000 23 ct_H_rowOf := ⟨ke_H_rowOf, fun pc as h => (show BT.AllP (fun pc as => ∀ a ∈ as, chkA GX 3000 23 ct_H_rowOf pc a = true) ct_H_rowOf.cut from trivial).at h⟩
theorem ke_Wh_setFeature : chkE GX 3000 28 ct_Wh_setFeature = true := by decide +kernel
theorem ka_Wh_setFeature_17_0 : chkA GX 3000 28 ct_Wh_setFeature 17 ca_Wh_setFeature_17_0 = true := by decide +kernel
theorem kk_Wh_setFeature : Chk GX 3000 28 ct_Wh_setFeature := ⟨ke_Wh_setFeature, fun pc as h => (show BT.AllP (fun pc as => ∀ a ∈ as, chkA GX 3000 28 ct_Wh_setFeature pc a = true) ct_Wh_setFeature.cut from ⟨⟨List.forall_mem_cons.mpr ⟨ka_Wh_setFeature_17_0, fun a ha => by cases ha⟩, trivial⟩, trivial⟩).at h⟩
theorem ke_H_feature : chkE GX 3000 29 ct_H_feature = true := by decide +kernel
theorem kk_H_feature : Chk GX 3000 29 ct_H_feature := ⟨ke_H_feature, fun pc as h => (show BT.AllP (fun pc as => ∀ a ∈ as, chkA GX 3000 29 ct_H_feature pc a = true) ct_H_feature.cut from trivial).at h⟩
theorem ke_H_item : chkE GX 3000 32 ct_H_item = true := by decide +kernel
theorem kk_H_item : Chk GX 3000 32 ct_H_item := ⟨ke_H_item, fun pc as h => (show BT.AllP (fun pc as => ∀ a ∈ as, chkA GX 3000 32 ct_H_item pc a = true) ct_H_item.cut from trivial).at h⟩
theorem ke_H_itemOf : chkE GX 3000 33 ct_H_itemOf = true := by decide +kernel
theorem kk_H_itemOf : Chk GX 3000 33 ct_H_itemOf := ⟨ke_H_itemOf, fun pc as h => (show BT.AllP (fun pc as => ∀ a ∈ as, chkA GX 3000 33 ct_H_itemOf pc a = true) ct_H_itemOf.cut from trivial).at h⟩
