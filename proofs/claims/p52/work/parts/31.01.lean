theorem ke_H_copy : chkE GX 3000 35 ct_H_copy = true := by decide +kernel
theorem kk_H_copy : Chk GX 3000 35 ct_H_copy := ⟨ke_H_copy, fun pc as h => (show BT.AllP (fun pc as => ∀ a ∈ as, chkA GX 3000 35 ct_H_copy pc a = true) ct_H_copy.cut from trivial).at h⟩
theorem ke_Th_isInside : chkE GX 3000 38 ct_Th_isInside = true := by decide +kernel
theorem ka_Th_isInside_5_0 : chkA GX 3000 38 ct_Th_isInside 5 ca_Th_isInside_5_0 = true := by decide +kernel
theorem kk_Th_isInside : Chk GX 3000 38 ct_Th_isInside := ⟨ke_Th_isInside, fun pc as h => (show BT.AllP (fun pc as => ∀ a ∈ as, chkA GX 3000 38 ct_Th_isInside pc a = true) ct_Th_isInside.cut from ⟨⟨List.forall_mem_cons.mpr ⟨ka_Th_isInside_5_0, fun a ha => by cases ha⟩, trivial⟩, trivial⟩).at h⟩
theorem ke_Th_bearsAny : chkE GX 3000 41 ct_Th_bearsAny = true := by decide +kernel
theorem ka_Th_bearsAny_2_0 : chkA GX 3000 41 ct_Th_bearsAny 2 ca_Th_bearsAny_2_0 = true := by decide +kernel
theorem ka_Th_bearsAny_2_1 : chkA GX 3000 41 ct_Th_bearsAny 2 ca_Th_bearsAny_2_1 = true := by decide +kernel
theorem kk_Th_bearsAny : Chk GX 3000 41 ct_Th_bearsAny := ⟨ke_Th_bearsAny, fun pc as h => (show BT.AllP (fun pc as => ∀ a ∈ as, chkA GX 3000 41 ct_Th_bearsAny pc a = true) ct_Th_bearsAny.cut from ⟨⟨List.forall_mem_cons.mpr ⟨ka_Th_bearsAny_2_0, List.forall_mem_cons.mpr ⟨ka_Th_bearsAny_2_1, fun a ha => by cases ha⟩⟩, trivial⟩, trivial⟩).at h⟩
theorem ke_Th_depthOf : chkE GX 3000 43 ct_Th_depthOf = true := by decide +kernel
theorem ka_Th_depthOf_12_0 : chkA GX 3000 43 ct_Th_depthOf 12 ca_Th_depthOf_12_0 = true := by decide +kernel
theorem kk_Th_depthOf : Chk GX 3000 43 ct_Th_depthOf := ⟨ke_Th_depthOf, fun pc as h => (show BT.AllP (fun pc as => ∀ a ∈ as, chkA GX 3000 43 ct_Th_depthOf pc a = true) ct_Th_depthOf.cut from ⟨⟨List.forall_mem_cons.mpr ⟨ka_Th_depthOf_12_0, fun a ha => by cases ha⟩, trivial⟩, trivial⟩).at h⟩
theorem ke_H_thingOf : chkE GX 3000 44 ct_H_thingOf = true := by decide +kernel
theorem kk_H_thingOf : Chk GX 3000 44 ct_H_thingOf := ⟨ke_H_thingOf, fun pc as h => (show BT.AllP (fun pc as => ∀ a ∈ as, chkA GX 3000 44 ct_H_thingOf pc a = true) ct_H_thingOf.cut from trivial).at h⟩
theorem ke_Th_isUnder : chkE GX 3000 45 ct_Th_isUnder = true := by decide +kernel
theorem ka_Th_isUnder_5_0 : chkA GX 3000 45 ct_Th_isUnder 5 ca_Th_isUnder_5_0 = true := by decide +kernel
theorem kk_Th_isUnder : Chk GX 3000 45 ct_Th_isUnder := ⟨ke_Th_isUnder, fun pc as h => (show BT.AllP (fun pc as => ∀ a ∈ as, chkA GX 3000 45 ct_Th_isUnder pc a = true) ct_Th_isUnder.cut from ⟨⟨List.forall_mem_cons.mpr ⟨ka_Th_isUnder_5_0, fun a ha => by cases ha⟩, trivial⟩, trivial⟩).at h⟩
theorem ke_H_under : chkE GX 3000 46 ct_H_under = true := by decide +kernel
theorem kk_H_under : Chk GX 3000 46 ct_H_under := ⟨ke_H_under, fun pc as h => (show BT.AllP (fun pc as => ∀ a ∈ as, chkA GX 3000 46 ct_H_under pc a = true) ct_H_under.cut from trivial).at h⟩
theorem ke_H_doesHold : chkE GX 3000 51 ct_H_doesHold = true := by decide +kernel
theorem kk_H_doesHold : Chk GX 3000 51 ct_H_doesHold := ⟨ke_H_doesHold, fun pc as h => (show BT.AllP (fun pc as => ∀ a ∈ as, chkA GX 3000 51 ct_H_doesHold pc a = true) ct_H_doesHold.cut from trivial).at h⟩
theorem ke_Re_packed : chkE GX 3000 54 ct_Re_packed = true := by decide +kernel
