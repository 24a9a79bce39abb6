theorem LC_3_ok {E : xV} {σ : zS} (h : J0 σ) : LC_3 E σ J0 := by
  obtain ⟨k1, k2⟩ := pub_ok (J := JJ) (q := ctH_person) (o := 0) (as := []) (ds := [[(0, 200)], [(0, 200)]]) (ks := [(5, 2), (110, 8)]) (σ := σ) (show pubOk ctH_person 0 [] [[(0, 200)], [(0, 200)]] [(5, 2), (110, 8)] = true by decide +kernel) ⟨r0 h.2.1 (k := (5, 2)) (by decide), r0 h.2.1 (k := (110, 8)) (by decide), trivial⟩ h.1
  refine (cH_person (E := E) _ σ _ k1 k2).mono (fun v σ1 hv => ?_)
  obtain ⟨_, al, f2, ρ1, f3, f4, f5⟩ := hv
  rcases List.mem_cons.mp f2 with rfl | f2
  · obtain ⟨r, e, q⟩ := pair_i (E := E) (z := 312) (o1 := 0) (o2 := 110) (m := ctM_person_0) (ar := ctH_person.ar.tail) (a := .c (-3)) (kn := kn_person_0) (kn' := knE_person_0) cM_person_0 rfl rfl rfl (by decide +kernel) f4 f5 k2 f3 rfl
    exact ⟨r, e, q.mono (fun v' σ2 hq => ⟨⟨r, hq.1⟩, hq.2.1, hq.2.2, Eqs.nil⟩)⟩
  rcases List.mem_cons.mp f2 with rfl | f2
  · obtain ⟨r, e, q⟩ := pair_i (E := E) (z := 312) (o1 := 0) (o2 := 110) (m := ctM_person_1) (ar := ctH_person.ar.tail) (a := v9_2) (kn := kn_person_1) (kn' := knE_person_1) cM_person_1 rfl rfl rfl (by decide +kernel) f4 f5 k2 f3 rfl
    exact ⟨r, e, q.mono (fun v' σ2 hq => ⟨⟨r, hq.1⟩, hq.2.1, hq.2.2, Eqs.nil⟩)⟩
  · cases f2
theorem an_feature : ∀ a ∈ pc_feature.an, chk2 GX pc_feature DH 3000 a = true ∧ sdOk a = true := List.forall_mem_cons.mpr ⟨⟨k2_feature_0, rfl⟩, fun a ha => by cases ha⟩
theorem LC_9_ok {E : xV} {σ : zS} (h : J0 σ) : LC_9 E σ J0 := by
  intro x0 x1 x2 x3
  obtain ⟨k1, k2⟩ := pub_ok (J := JJ) (q := ctP_feature) (o := 0) (as := [.inl x0, .inl x1, .inl x2, .inl x3]) (ds := [T32, T32, T32, T32, [(0, 200)], [(0, 200)]]) (ks := [(5, 2), (110, 8)]) (σ := σ) (show pubOk ctP_feature 0 [false, false, false, false] [T32, T32, T32, T32, [(0, 200)], [(0, 200)]] [(5, 2), (110, 8)] = true by decide +kernel) ⟨in32 _, in32 _, in32 _, in32 _, r0 h.2.1 (k := (5, 2)) (by decide), r0 h.2.1 (k := (110, 8)) (by decide), trivial⟩ h.1
  obtain ⟨rH, σ1, rM, σ2, ⟨r, e1, ⟨r2, e2, e3⟩, e4, e5⟩, hH, hM⟩ := root2_ok (E := E) (Y := Yf) (G := GX) (J := JJ) (D := DH) (C := pc_feature) (K2 := K2i false) (n := 3000) (zH := 29) (zM := 327) (arH := ctP_feature.ar) (arM := .r 110 :: ctP_feature.ar.tail) (kn := kn_feature) (big := 100) GX_G GX_J ⟨GX_H, JJ_pb⟩ (F2_i (C := pc_feature) (by decide +kernel)) an_feature k2_feature_r (by decide +kernel) (by decide +kernel) k1 k2 (show Rs _ (.r 110 :: ctP_feature.ar.tail) (.ref 110 :: _) from ⟨rfl, k2.2⟩)
  exact hH _ ⟨r, e1, hM _ ⟨⟨r2, e2⟩, e4, e5, Eqs.nil⟩⟩
theorem an_item : ∀ a ∈ pc_item.an, chk2 GX pc_item DH 3000 a = true ∧ sdOk a = true := fun a ha => by cases ha
theorem LC_10_ok {E : xV} {σ : zS} (h : J0 σ) : LC_10 E σ J0 := by
  intro x0 x1 x2 x3
  obtain ⟨k1, k2⟩ := pub_ok (J := JJ) (q := ctP_item) (o := 0) (as := [.inl x0, .inl x1, .inl x2, .inr x3]) (ds := [T32, T32, T32, T64, [(0, 200)], [(0, 200)]]) (ks := [(5, 2), (110, 8)]) (σ := σ) (show pubOk ctP_item 0 [false, false, false, true] [T32, T32, T32, T64, [(0, 200)], [(0, 200)]] [(5, 2), (110, 8)] = true by decide +kernel) ⟨in32 _, in32 _, in32 _, in64 _, r0 h.2.1 (k := (5, 2)) (by decide), r0 h.2.1 (k := (110, 8)) (by decide), trivial⟩ h.1
  obtain ⟨rH, σ1, rM, σ2, ⟨r, e1, ⟨r2, e2, e3⟩, e4, e5⟩, hH, hM⟩ := root2_ok (E := E) (Y := Yf) (G := GX) (J := JJ) (D := DH) (C := pc_item) (K2 := K2i false) (n := 3000) (zH := 32) (zM := 328) (arH := ctP_item.ar) (arM := .r 110 :: ctP_item.ar.tail) (kn := kn_item) (big := 1) GX_G GX_J ⟨GX_H, JJ_pb⟩ (F2_i (C := pc_item) (by decide +kernel)) an_item k2_item_r (by decide +kernel) (by decide +kernel) k1 k2 (show Rs _ (.r 110 :: ctP_item.ar.tail) (.ref 110 :: _) from ⟨rfl, k2.2⟩)
  exact hH _ ⟨r, e1, hM _ ⟨⟨r2, e2⟩, e4, e5, Eqs.nil⟩⟩
theorem an_itemOf : ∀ a ∈ pc_itemOf.an, chk2 GX pc_itemOf DH 3000 a = true ∧ sdOk a = true := fun a ha => by cases ha
theorem LC_11_ok {E : xV} {σ : zS} (h : J0 σ) : LC_11 E σ J0 := by
  intro x0 x1 x2 x3
  obtain ⟨k1, k2⟩ := pub_ok (J := JJ) (q := ctP_itemOf) (o := 0) (as := [.inl x0, .inl x1, .inl x2, .inl x3]) (ds := [T32, T32, T32, T32, [(0, 200)], [(0, 200)]]) (ks := [(5, 2), (110, 8)]) (σ := σ) (show pubOk ctP_itemOf 0 [false, false, false, false] [T32, T32, T32, T32, [(0, 200)], [(0, 200)]] [(5, 2), (110, 8)] = true by decide +kernel) ⟨in32 _, in32 _, in32 _, in32 _, r0 h.2.1 (k := (5, 2)) (by decide), r0 h.2.1 (k := (110, 8)) (by decide), trivial⟩ h.1
  obtain ⟨rH, σ1, rM, σ2, ⟨r, e1, ⟨r2, e2, e3⟩, e4, e5⟩, hH, hM⟩ := root2_ok (E := E) (Y := Yf) (G := GX) (J := JJ) (D := DH) (C := pc_itemOf) (K2 := K2l true) (n := 3000) (zH := 33) (zM := 329) (arH := ctP_itemOf.ar) (arM := .r 110 :: ctP_itemOf.ar.tail) (kn := kn_itemOf) (big := 1) GX_G GX_J ⟨GX_H, JJ_pb⟩ (F2_l (C := pc_itemOf) (by decide +kernel)) an_itemOf k2_itemOf_r (by decide +kernel) (by decide +kernel) k1 k2 (show Rs _ (.r 110 :: ctP_itemOf.ar.tail) (.ref 110 :: _) from ⟨rfl, k2.2⟩)
  exact hH _ ⟨r, e1, hM _ ⟨by rw [e2, e3 rfl], e4, e5, Eqs.nil⟩⟩
theorem an_copy : ∀ a ∈ pc_copy.an, chk2 GX pc_copy DH 3000 a = true ∧ sdOk a = true := List.forall_mem_cons.mpr ⟨⟨k2_copy_0, rfl⟩, List.forall_mem_cons.mpr ⟨⟨k2_copy_1, rfl⟩, fun a ha => by cases ha⟩⟩
theorem LC_12_ok {E : xV} {σ : zS} (h : J0 σ) : LC_12 E σ J0 := by
  intro x0 x1 x2 x3 x4 x5 x6
  rcases dc2 (x := x1.toInt) (lo := (-2147483648)) (a := (-1)) (c := 0) (hi := 2147483647) (by decide) (in32 _) with d1_2 | d1_2
  · skip
    rcases dc2 (x := x3.toInt) (lo := (-2147483648)) (a := (-1)) (c := 0) (hi := 2147483647) (by decide) (in32 _) with d3_4 | d3_4
    · skip
      obtain ⟨k1, k2⟩ := pub_ok (J := JJ) (q := ctP_copyv0) (o := 0) (as := [.inl x0, .inl x1, .inl x2, .inl x3, .inl x4, .inl x5, .inl x6]) (ds := [T32, [((-2147483648), (-1))], T32, [((-2147483648), (-1))], T32, T32, T32, [(0, 200)], [(0, 200)]]) (ks := [(5, 2), (110, 8)]) (σ := σ) (show pubOk ctP_copyv0 0 [false, false, false, false, false, false, false] [T32, [((-2147483648), (-1))], T32, [((-2147483648), (-1))], T32, T32, T32, [(0, 200)], [(0, 200)]] [(5, 2), (110, 8)] = true by decide +kernel) ⟨in32 _, d1_2, in32 _, d3_4, in32 _, in32 _, in32 _, r0 h.2.1 (k := (5, 2)) (by decide), r0 h.2.1 (k := (110, 8)) (by decide), trivial⟩ h.1
      obtain ⟨rH, σ1, rM, σ2, ⟨r, e1, ⟨r2, e2, e3⟩, e4, e5⟩, hH, hM⟩ := root2_ok (E := E) (Y := Yf) (G := GX) (J := JJ) (D := DH) (C := pc_copy) (K2 := K2i false) (n := 3000) (zH := 35) (zM := 330) (arH := ctP_copyv0.ar) (arM := .r 110 :: ctP_copyv0.ar.tail) (kn := kn_copyv0) (big := 1000) GX_G GX_J ⟨GX_H, JJ_pb⟩ (F2_i (C := pc_copy) (by decide +kernel)) an_copy k2_copyv0_r (by decide +kernel) (by decide +kernel) k1 k2 (show Rs _ (.r 110 :: ctP_copyv0.ar.tail) (.ref 110 :: _) from ⟨rfl, k2.2⟩)
      exact hH _ ⟨r, e1, hM _ ⟨⟨r2, e2⟩, e4, e5, Eqs.nil⟩⟩
    · skip
      rcases dc2 (x := x3.toInt) (lo := 0) (a := 19) (c := 20) (hi := 2147483647) (by decide) (d3_4) with d3_6 | d3_6
      · skip
        obtain ⟨k1, k2⟩ := pub_ok (J := JJ) (q := ctP_copyv1) (o := 0) (as := [.inl x0, .inl x1, .inl x2, .inl x3, .inl x4, .inl x5, .inl x6]) (ds := [T32, [((-2147483648), (-1))], T32, [(0, 19)], T32, T32, T32, [(0, 200)], [(0, 200)]]) (ks := [(5, 2), (110, 8)]) (σ := σ) (show pubOk ctP_copyv1 0 [false, false, false, false, false, false, false] [T32, [((-2147483648), (-1))], T32, [(0, 19)], T32, T32, T32, [(0, 200)], [(0, 200)]] [(5, 2), (110, 8)] = true by decide +kernel) ⟨in32 _, d1_2, in32 _, d3_6, in32 _, in32 _, in32 _, r0 h.2.1 (k := (5, 2)) (by decide), r0 h.2.1 (k := (110, 8)) (by decide), trivial⟩ h.1
        obtain ⟨rH, σ1, rM, σ2, ⟨r, e1, ⟨r2, e2, e3⟩, e4, e5⟩, hH, hM⟩ := root2_ok (E := E) (Y := Yf) (G := GX) (J := JJ) (D := DH) (C := pc_copy) (K2 := K2i false) (n := 3000) (zH := 35) (zM := 330) (arH := ctP_copyv1.ar) (arM := .r 110 :: ctP_copyv1.ar.tail) (kn := kn_copyv1) (big := 1000) GX_G GX_J ⟨GX_H, JJ_pb⟩ (F2_i (C := pc_copy) (by decide +kernel)) an_copy k2_copyv1_r (by decide +kernel) (by decide +kernel) k1 k2 (show Rs _ (.r 110 :: ctP_copyv1.ar.tail) (.ref 110 :: _) from ⟨rfl, k2.2⟩)
        exact hH _ ⟨r, e1, hM _ ⟨⟨r2, e2⟩, e4, e5, Eqs.nil⟩⟩
      · skip
        rcases dc2 (x := x3.toInt) (lo := 20) (a := 99) (c := 100) (hi := 2147483647) (by decide) (d3_6) with d3_8 | d3_8
        · skip
          obtain ⟨k1, k2⟩ := pub_ok (J := JJ) (q := ctP_copyv2) (o := 0) (as := [.inl x0, .inl x1, .inl x2, .inl x3, .inl x4, .inl x5, .inl x6]) (ds := [T32, [((-2147483648), (-1))], T32, [(20, 99)], T32, T32, T32, [(0, 200)], [(0, 200)]]) (ks := [(5, 2), (110, 8)]) (σ := σ) (show pubOk ctP_copyv2 0 [false, false, false, false, false, false, false] [T32, [((-2147483648), (-1))], T32, [(20, 99)], T32, T32, T32, [(0, 200)], [(0, 200)]] [(5, 2), (110, 8)] = true by decide +kernel) ⟨in32 _, d1_2, in32 _, d3_8, in32 _, in32 _, in32 _, r0 h.2.1 (k := (5, 2)) (by decide), r0 h.2.1 (k := (110, 8)) (by decide), trivial⟩ h.1
          obtain ⟨rH, σ1, rM, σ2, ⟨r, e1, ⟨r2, e2, e3⟩, e4, e5⟩, hH, hM⟩ := root2_ok (E := E) (Y := Yf) (G := GX) (J := JJ) (D := DH) (C := pc_copy) (K2 := K2i false) (n := 3000) (zH := 35) (zM := 330) (arH := ctP_copyv2.ar) (arM := .r 110 :: ctP_copyv2.ar.tail) (kn := kn_copyv2) (big := 1000) GX_G GX_J ⟨GX_H, JJ_pb⟩ (F2_i (C := pc_copy) (by decide +kernel)) an_copy k2_copyv2_r (by decide +kernel) (by decide +kernel) k1 k2 (show Rs _ (.r 110 :: ctP_copyv2.ar.tail) (.ref 110 :: _) from ⟨rfl, k2.2⟩)
          exact hH _ ⟨r, e1, hM _ ⟨⟨r2, e2⟩, e4, e5, Eqs.nil⟩⟩
        · skip
          rcases dc2 (x := x3.toInt) (lo := 100) (a := 139) (c := 140) (hi := 2147483647) (by decide) (d3_8) with d3_10 | d3_10
          · skip
            obtain ⟨k1, k2⟩ := pub_ok (J := JJ) (q := ctP_copyv3) (o := 0) (as := [.inl x0, .inl x1, .inl x2, .inl x3, .inl x4, .inl x5, .inl x6]) (ds := [T32, [((-2147483648), (-1))], T32, [(100, 139)], T32, T32, T32, [(0, 200)], [(0, 200)]]) (ks := [(5, 2), (110, 8)]) (σ := σ) (show pubOk ctP_copyv3 0 [false, false, false, false, false, false, false] [T32, [((-2147483648), (-1))], T32, [(100, 139)], T32, T32, T32, [(0, 200)], [(0, 200)]] [(5, 2), (110, 8)] = true by decide +kernel) ⟨in32 _, d1_2, in32 _, d3_10, in32 _, in32 _, in32 _, r0 h.2.1 (k := (5, 2)) (by decide), r0 h.2.1 (k := (110, 8)) (by decide), trivial⟩ h.1
            obtain ⟨rH, σ1, rM, σ2, ⟨r, e1, ⟨r2, e2, e3⟩, e4, e5⟩, hH, hM⟩ := root2_ok (E := E) (Y := Yf) (G := GX) (J := JJ) (D := DH) (C := pc_copy) (K2 := K2i false) (n := 3000) (zH := 35) (zM := 330) (arH := ctP_copyv3.ar) (arM := .r 110 :: ctP_copyv3.ar.tail) (kn := kn_copyv3) (big := 1000) GX_G GX_J ⟨GX_H, JJ_pb⟩ (F2_i (C := pc_copy) (by decide +kernel)) an_copy k2_copyv3_r (by decide +kernel) (by decide +kernel) k1 k2 (show Rs _ (.r 110 :: ctP_copyv3.ar.tail) (.ref 110 :: _) from ⟨rfl, k2.2⟩)
            exact hH _ ⟨r, e1, hM _ ⟨⟨r2, e2⟩, e4, e5, Eqs.nil⟩⟩
          · skip
            obtain ⟨k1, k2⟩ := pub_ok (J := JJ) (q := ctP_copyv4) (o := 0) (as := [.inl x0, .inl x1, .inl x2, .inl x3, .inl x4, .inl x5, .inl x6]) (ds := [T32, [((-2147483648), (-1))], T32, [(140, 2147483647)], T32, T32, T32, [(0, 200)], [(0, 200)]]) (ks := [(5, 2), (110, 8)]) (σ := σ) (show pubOk ctP_copyv4 0 [false, false, false, false, false, false, false] [T32, [((-2147483648), (-1))], T32, [(140, 2147483647)], T32, T32, T32, [(0, 200)], [(0, 200)]] [(5, 2), (110, 8)] = true by decide +kernel) ⟨in32 _, d1_2, in32 _, d3_10, in32 _, in32 _, in32 _, r0 h.2.1 (k := (5, 2)) (by decide), r0 h.2.1 (k := (110, 8)) (by decide), trivial⟩ h.1
            obtain ⟨rH, σ1, rM, σ2, ⟨r, e1, ⟨r2, e2, e3⟩, e4, e5⟩, hH, hM⟩ := root2_ok (E := E) (Y := Yf) (G := GX) (J := JJ) (D := DH) (C := pc_copy) (K2 := K2i false) (n := 3000) (zH := 35) (zM := 330) (arH := ctP_copyv4.ar) (arM := .r 110 :: ctP_copyv4.ar.tail) (kn := kn_copyv4) (big := 1000) GX_G GX_J ⟨GX_H, JJ_pb⟩ (F2_i (C := pc_copy) (by decide +kernel)) an_copy k2_copyv4_r (by decide +kernel) (by decide +kernel) k1 k2 (show Rs _ (.r 110 :: ctP_copyv4.ar.tail) (.ref 110 :: _) from ⟨rfl, k2.2⟩)
            exact hH _ ⟨r, e1, hM _ ⟨⟨r2, e2⟩, e4, e5, Eqs.nil⟩⟩
  · skip
    rcases dc2 (x := x1.toInt) (lo := 0) (a := 7) (c := 8) (hi := 2147483647) (by decide) (d1_2) with d1_4 | d1_4
    · skip
      rcases dc2 (x := x4.toInt) (lo := (-2147483648)) (a := (-1)) (c := 0) (hi := 2147483647) (by decide) (in32 _) with d4_6 | d4_6
      · skip
        obtain ⟨k1, k2⟩ := pub_ok (J := JJ) (q := ctP_copyv5) (o := 0) (as := [.inl x0, .inl x1, .inl x2, .inl x3, .inl x4, .inl x5, .inl x6]) (ds := [T32, [(0, 7)], T32, T32, [((-2147483648), (-1))], T32, T32, [(0, 200)], [(0, 200)]]) (ks := [(5, 2), (110, 8)]) (σ := σ) (show pubOk ctP_copyv5 0 [false, false, false, false, false, false, false] [T32, [(0, 7)], T32, T32, [((-2147483648), (-1))], T32, T32, [(0, 200)], [(0, 200)]] [(5, 2), (110, 8)] = true by decide +kernel) ⟨in32 _, d1_4, in32 _, in32 _, d4_6, in32 _, in32 _, r0 h.2.1 (k := (5, 2)) (by decide), r0 h.2.1 (k := (110, 8)) (by decide), trivial⟩ h.1
        obtain ⟨rH, σ1, rM, σ2, ⟨r, e1, ⟨r2, e2, e3⟩, e4, e5⟩, hH, hM⟩ := root2_ok (E := E) (Y := Yf) (G := GX) (J := JJ) (D := DH) (C := pc_copy) (K2 := K2i false) (n := 3000) (zH := 35) (zM := 330) (arH := ctP_copyv5.ar) (arM := .r 110 :: ctP_copyv5.ar.tail) (kn := kn_copyv5) (big := 1000) GX_G GX_J ⟨GX_H, JJ_pb⟩ (F2_i (C := pc_copy) (by decide +kernel)) an_copy k2_copyv5_r (by decide +kernel) (by decide +kernel) k1 k2 (show Rs _ (.r 110 :: ctP_copyv5.ar.tail) (.ref 110 :: _) from ⟨rfl, k2.2⟩)
        exact hH _ ⟨r, e1, hM _ ⟨⟨r2, e2⟩, e4, e5, Eqs.nil⟩⟩
      · skip
        rcases dc2 (x := x4.toInt) (lo := 0) (a := 7) (c := 8) (hi := 2147483647) (by decide) (d4_6) with d4_8 | d4_8
        · skip
          rcases dc2 (x := x0.toInt) (lo := (-2147483648)) (a := (-1)) (c := 0) (hi := 2147483647) (by decide) (in32 _) with d0_10 | d0_10
          · skip
            obtain ⟨k1, k2⟩ := pub_ok (J := JJ) (q := ctP_copyv6) (o := 0) (as := [.inl x0, .inl x1, .inl x2, .inl x3, .inl x4, .inl x5, .inl x6]) (ds := [[((-2147483648), (-1))], [(0, 7)], T32, T32, [(0, 7)], T32, T32, [(0, 200)], [(0, 200)]]) (ks := [(5, 2), (110, 8)]) (σ := σ) (show pubOk ctP_copyv6 0 [false, false, false, false, false, false, false] [[((-2147483648), (-1))], [(0, 7)], T32, T32, [(0, 7)], T32, T32, [(0, 200)], [(0, 200)]] [(5, 2), (110, 8)] = true by decide +kernel) ⟨d0_10, d1_4, in32 _, in32 _, d4_8, in32 _, in32 _, r0 h.2.1 (k := (5, 2)) (by decide), r0 h.2.1 (k := (110, 8)) (by decide), trivial⟩ h.1
            obtain ⟨rH, σ1, rM, σ2, ⟨r, e1, ⟨r2, e2, e3⟩, e4, e5⟩, hH, hM⟩ := root2_ok (E := E) (Y := Yf) (G := GX) (J := JJ) (D := DH) (C := pc_copy) (K2 := K2i false) (n := 3000) (zH := 35) (zM := 330) (arH := ctP_copyv6.ar) (arM := .r 110 :: ctP_copyv6.ar.tail) (kn := kn_copyv6) (big := 1000) GX_G GX_J ⟨GX_H, JJ_pb⟩ (F2_i (C := pc_copy) (by decide +kernel)) an_copy k2_copyv6_r (by decide +kernel) (by decide +kernel) k1 k2 (show Rs _ (.r 110 :: ctP_copyv6.ar.tail) (.ref 110 :: _) from ⟨rfl, k2.2⟩)
            exact hH _ ⟨r, e1, hM _ ⟨⟨r2, e2⟩, e4, e5, Eqs.nil⟩⟩
          · skip
            rcases dc2 (x := x0.toInt) (lo := 0) (a := 19) (c := 20) (hi := 2147483647) (by decide) (d0_10) with d0_12 | d0_12
            · skip
              rcases dc2 (x := x3.toInt) (lo := (-2147483648)) (a := (-1)) (c := 0) (hi := 2147483647) (by decide) (in32 _) with d3_14 | d3_14
              · skip
                obtain ⟨k1, k2⟩ := pub_ok (J := JJ) (q := ctP_copyv7) (o := 0) (as := [.inl x0, .inl x1, .inl x2, .inl x3, .inl x4, .inl x5, .inl x6]) (ds := [[(0, 19)], [(0, 7)], T32, [((-2147483648), (-1))], [(0, 7)], T32, T32, [(0, 200)], [(0, 200)]]) (ks := [(5, 2), (110, 8)]) (σ := σ) (show pubOk ctP_copyv7 0 [false, false, false, false, false, false, false] [[(0, 19)], [(0, 7)], T32, [((-2147483648), (-1))], [(0, 7)], T32, T32, [(0, 200)], [(0, 200)]] [(5, 2), (110, 8)] = true by decide +kernel) ⟨d0_12, d1_4, in32 _, d3_14, d4_8, in32 _, in32 _, r0 h.2.1 (k := (5, 2)) (by decide), r0 h.2.1 (k := (110, 8)) (by decide), trivial⟩ h.1
                obtain ⟨rH, σ1, rM, σ2, ⟨r, e1, ⟨r2, e2, e3⟩, e4, e5⟩, hH, hM⟩ := root2_ok (E := E) (Y := Yf) (G := GX) (J := JJ) (D := DH) (C := pc_copy) (K2 := K2i false) (n := 3000) (zH := 35) (zM := 330) (arH := ctP_copyv7.ar) (arM := .r 110 :: ctP_copyv7.ar.tail) (kn := kn_copyv7) (big := 1000) GX_G GX_J ⟨GX_H, JJ_pb⟩ (F2_i (C := pc_copy) (by decide +kernel)) an_copy k2_copyv7_r (by decide +kernel) (by decide +kernel) k1 k2 (show Rs _ (.r 110 :: ctP_copyv7.ar.tail) (.ref 110 :: _) from ⟨rfl, k2.2⟩)
                exact hH _ ⟨r, e1, hM _ ⟨⟨r2, e2⟩, e4, e5, Eqs.nil⟩⟩
              · skip
                rcases dc2 (x := x3.toInt) (lo := 0) (a := 19) (c := 20) (hi := 2147483647) (by decide) (d3_14) with d3_16 | d3_16
                · skip
                  obtain ⟨k1, k2⟩ := pub_ok (J := JJ) (q := ctP_copyv8) (o := 0) (as := [.inl x0, .inl x1, .inl x2, .inl x3, .inl x4, .inl x5, .inl x6]) (ds := [[(0, 19)], [(0, 7)], T32, [(0, 19)], [(0, 7)], T32, T32, [(0, 200)], [(0, 200)]]) (ks := [(5, 2), (110, 8)]) (σ := σ) (show pubOk ctP_copyv8 0 [false, false, false, false, false, false, false] [[(0, 19)], [(0, 7)], T32, [(0, 19)], [(0, 7)], T32, T32, [(0, 200)], [(0, 200)]] [(5, 2), (110, 8)] = true by decide +kernel) ⟨d0_12, d1_4, in32 _, d3_16, d4_8, in32 _, in32 _, r0 h.2.1 (k := (5, 2)) (by decide), r0 h.2.1 (k := (110, 8)) (by decide), trivial⟩ h.1
                  obtain ⟨rH, σ1, rM, σ2, ⟨r, e1, ⟨r2, e2, e3⟩, e4, e5⟩, hH, hM⟩ := root2_ok (E := E) (Y := Yf) (G := GX) (J := JJ) (D := DH) (C := pc_copy) (K2 := K2i false) (n := 3000) (zH := 35) (zM := 330) (arH := ctP_copyv8.ar) (arM := .r 110 :: ctP_copyv8.ar.tail) (kn := kn_copyv8) (big := 1000) GX_G GX_J ⟨GX_H, JJ_pb⟩ (F2_i (C := pc_copy) (by decide +kernel)) an_copy k2_copyv8_r (by decide +kernel) (by decide +kernel) k1 k2 (show Rs _ (.r 110 :: ctP_copyv8.ar.tail) (.ref 110 :: _) from ⟨rfl, k2.2⟩)
                  exact hH _ ⟨r, e1, hM _ ⟨⟨r2, e2⟩, e4, e5, Eqs.nil⟩⟩
                · skip
                  rcases dc2 (x := x3.toInt) (lo := 20) (a := 99) (c := 100) (hi := 2147483647) (by decide) (d3_16) with d3_18 | d3_18
                  · skip
                    obtain ⟨k1, k2⟩ := pub_ok (J := JJ) (q := ctP_copyv9) (o := 0) (as := [.inl x0, .inl x1, .inl x2, .inl x3, .inl x4, .inl x5, .inl x6]) (ds := [[(0, 19)], [(0, 7)], T32, [(20, 99)], [(0, 7)], T32, T32, [(0, 200)], [(0, 200)]]) (ks := [(5, 2), (110, 8)]) (σ := σ) (show pubOk ctP_copyv9 0 [false, false, false, false, false, false, false] [[(0, 19)], [(0, 7)], T32, [(20, 99)], [(0, 7)], T32, T32, [(0, 200)], [(0, 200)]] [(5, 2), (110, 8)] = true by decide +kernel) ⟨d0_12, d1_4, in32 _, d3_18, d4_8, in32 _, in32 _, r0 h.2.1 (k := (5, 2)) (by decide), r0 h.2.1 (k := (110, 8)) (by decide), trivial⟩ h.1
                    obtain ⟨rH, σ1, rM, σ2, ⟨r, e1, ⟨r2, e2, e3⟩, e4, e5⟩, hH, hM⟩ := root2_ok (E := E) (Y := Yf) (G := GX) (J := JJ) (D := DH) (C := pc_copy) (K2 := K2i false) (n := 3000) (zH := 35) (zM := 330) (arH := ctP_copyv9.ar) (arM := .r 110 :: ctP_copyv9.ar.tail) (kn := kn_copyv9) (big := 1000) GX_G GX_J ⟨GX_H, JJ_pb⟩ (F2_i (C := pc_copy) (by decide +kernel)) an_copy k2_copyv9_r (by decide +kernel) (by decide +kernel) k1 k2 (show Rs _ (.r 110 :: ctP_copyv9.ar.tail) (.ref 110 :: _) from ⟨rfl, k2.2⟩)
                    exact hH _ ⟨r, e1, hM _ ⟨⟨r2, e2⟩, e4, e5, Eqs.nil⟩⟩
                  · skip
                    rcases dc2 (x := x3.toInt) (lo := 100) (a := 139) (c := 140) (hi := 2147483647) (by decide) (d3_18) with d3_20 | d3_20
                    · skip
                      obtain ⟨k1, k2⟩ := pub_ok (J := JJ) (q := ctP_copyv10) (o := 0) (as := [.inl x0, .inl x1, .inl x2, .inl x3, .inl x4, .inl x5, .inl x6]) (ds := [[(0, 19)], [(0, 7)], T32, [(100, 139)], [(0, 7)], T32, T32, [(0, 200)], [(0, 200)]]) (ks := [(5, 2), (110, 8)]) (σ := σ) (show pubOk ctP_copyv10 0 [false, false, false, false, false, false, false] [[(0, 19)], [(0, 7)], T32, [(100, 139)], [(0, 7)], T32, T32, [(0, 200)], [(0, 200)]] [(5, 2), (110, 8)] = true by decide +kernel) ⟨d0_12, d1_4, in32 _, d3_20, d4_8, in32 _, in32 _, r0 h.2.1 (k := (5, 2)) (by decide), r0 h.2.1 (k := (110, 8)) (by decide), trivial⟩ h.1
                      obtain ⟨rH, σ1, rM, σ2, ⟨r, e1, ⟨r2, e2, e3⟩, e4, e5⟩, hH, hM⟩ := root2_ok (E := E) (Y := Yf) (G := GX) (J := JJ) (D := DH) (C := pc_copy) (K2 := K2i false) (n := 3000) (zH := 35) (zM := 330) (arH := ctP_copyv10.ar) (arM := .r 110 :: ctP_copyv10.ar.tail) (kn := kn_copyv10) (big := 1000) GX_G GX_J ⟨GX_H, JJ_pb⟩ (F2_i (C := pc_copy) (by decide +kernel)) an_copy k2_copyv10_r (by decide +kernel) (by decide +kernel) k1 k2 (show Rs _ (.r 110 :: ctP_copyv10.ar.tail) (.ref 110 :: _) from ⟨rfl, k2.2⟩)
                      exact hH _ ⟨r, e1, hM _ ⟨⟨r2, e2⟩, e4, e5, Eqs.nil⟩⟩
                    · skip
                      obtain ⟨k1, k2⟩ := pub_ok (J := JJ) (q := ctP_copyv11) (o := 0) (as := [.inl x0, .inl x1, .inl x2, .inl x3, .inl x4, .inl x5, .inl x6]) (ds := [[(0, 19)], [(0, 7)], T32, [(140, 2147483647)], [(0, 7)], T32, T32, [(0, 200)], [(0, 200)]]) (ks := [(5, 2), (110, 8)]) (σ := σ) (show pubOk ctP_copyv11 0 [false, false, false, false, false, false, false] [[(0, 19)], [(0, 7)], T32, [(140, 2147483647)], [(0, 7)], T32, T32, [(0, 200)], [(0, 200)]] [(5, 2), (110, 8)] = true by decide +kernel) ⟨d0_12, d1_4, in32 _, d3_20, d4_8, in32 _, in32 _, r0 h.2.1 (k := (5, 2)) (by decide), r0 h.2.1 (k := (110, 8)) (by decide), trivial⟩ h.1
                      obtain ⟨rH, σ1, rM, σ2, ⟨r, e1, ⟨r2, e2, e3⟩, e4, e5⟩, hH, hM⟩ := root2_ok (E := E) (Y := Yf) (G := GX) (J := JJ) (D := DH) (C := pc_copy) (K2 := K2i false) (n := 3000) (zH := 35) (zM := 330) (arH := ctP_copyv11.ar) (arM := .r 110 :: ctP_copyv11.ar.tail) (kn := kn_copyv11) (big := 1000) GX_G GX_J ⟨GX_H, JJ_pb⟩ (F2_i (C := pc_copy) (by decide +kernel)) an_copy k2_copyv11_r (by decide +kernel) (by decide +kernel) k1 k2 (show Rs _ (.r 110 :: ctP_copyv11.ar.tail) (.ref 110 :: _) from ⟨rfl, k2.2⟩)
                      exact hH _ ⟨r, e1, hM _ ⟨⟨r2, e2⟩, e4, e5, Eqs.nil⟩⟩
            · skip
              rcases dc2 (x := x0.toInt) (lo := 20) (a := 99) (c := 100) (hi := 2147483647) (by decide) (d0_12) with d0_14 | d0_14
              · skip
                obtain ⟨k1, k2⟩ := pub_ok (J := JJ) (q := ctP_copyv12) (o := 0) (as := [.inl x0, .inl x1, .inl x2, .inl x3, .inl x4, .inl x5, .inl x6]) (ds := [[(20, 99)], [(0, 7)], T32, T32, [(0, 7)], T32, T32, [(0, 200)], [(0, 200)]]) (ks := [(5, 2), (110, 8)]) (σ := σ) (show pubOk ctP_copyv12 0 [false, false, false, false, false, false, false] [[(20, 99)], [(0, 7)], T32, T32, [(0, 7)], T32, T32, [(0, 200)], [(0, 200)]] [(5, 2), (110, 8)] = true by decide +kernel) ⟨d0_14, d1_4, in32 _, in32 _, d4_8, in32 _, in32 _, r0 h.2.1 (k := (5, 2)) (by decide), r0 h.2.1 (k := (110, 8)) (by decide), trivial⟩ h.1
                obtain ⟨rH, σ1, rM, σ2, ⟨r, e1, ⟨r2, e2, e3⟩, e4, e5⟩, hH, hM⟩ := root2_ok (E := E) (Y := Yf) (G := GX) (J := JJ) (D := DH) (C := pc_copy) (K2 := K2i false) (n := 3000) (zH := 35) (zM := 330) (arH := ctP_copyv12.ar) (arM := .r 110 :: ctP_copyv12.ar.tail) (kn := kn_copyv12) (big := 1000) GX_G GX_J ⟨GX_H, JJ_pb⟩ (F2_i (C := pc_copy) (by decide +kernel)) an_copy k2_copyv12_r (by decide +kernel) (by decide +kernel) k1 k2 (show Rs _ (.r 110 :: ctP_copyv12.ar.tail) (.ref 110 :: _) from ⟨rfl, k2.2⟩)
                exact hH _ ⟨r, e1, hM _ ⟨⟨r2, e2⟩, e4, e5, Eqs.nil⟩⟩
              · skip
                rcases dc2 (x := x0.toInt) (lo := 100) (a := 139) (c := 140) (hi := 2147483647) (by decide) (d0_14) with d0_16 | d0_16
                · skip
                  rcases dc2 (x := x3.toInt) (lo := (-2147483648)) (a := (-1)) (c := 0) (hi := 2147483647) (by decide) (in32 _) with d3_18 | d3_18
                  · skip
                    obtain ⟨k1, k2⟩ := pub_ok (J := JJ) (q := ctP_copyv13) (o := 0) (as := [.inl x0, .inl x1, .inl x2, .inl x3, .inl x4, .inl x5, .inl x6]) (ds := [[(100, 139)], [(0, 7)], T32, [((-2147483648), (-1))], [(0, 7)], T32, T32, [(0, 200)], [(0, 200)]]) (ks := [(5, 2), (110, 8)]) (σ := σ) (show pubOk ctP_copyv13 0 [false, false, false, false, false, false, false] [[(100, 139)], [(0, 7)], T32, [((-2147483648), (-1))], [(0, 7)], T32, T32, [(0, 200)], [(0, 200)]] [(5, 2), (110, 8)] = true by decide +kernel) ⟨d0_16, d1_4, in32 _, d3_18, d4_8, in32 _, in32 _, r0 h.2.1 (k := (5, 2)) (by decide), r0 h.2.1 (k := (110, 8)) (by decide), trivial⟩ h.1
                    obtain ⟨rH, σ1, rM, σ2, ⟨r, e1, ⟨r2, e2, e3⟩, e4, e5⟩, hH, hM⟩ := root2_ok (E := E) (Y := Yf) (G := GX) (J := JJ) (D := DH) (C := pc_copy) (K2 := K2i false) (n := 3000) (zH := 35) (zM := 330) (arH := ctP_copyv13.ar) (arM := .r 110 :: ctP_copyv13.ar.tail) (kn := kn_copyv13) (big := 1000) GX_G GX_J ⟨GX_H, JJ_pb⟩ (F2_i (C := pc_copy) (by decide +kernel)) an_copy k2_copyv13_r (by decide +kernel) (by decide +kernel) k1 k2 (show Rs _ (.r 110 :: ctP_copyv13.ar.tail) (.ref 110 :: _) from ⟨rfl, k2.2⟩)
                    exact hH _ ⟨r, e1, hM _ ⟨⟨r2, e2⟩, e4, e5, Eqs.nil⟩⟩
                  · skip
                    rcases dc2 (x := x3.toInt) (lo := 0) (a := 19) (c := 20) (hi := 2147483647) (by decide) (d3_18) with d3_20 | d3_20
                    · skip
                      obtain ⟨k1, k2⟩ := pub_ok (J := JJ) (q := ctP_copyv14) (o := 0) (as := [.inl x0, .inl x1, .inl x2, .inl x3, .inl x4, .inl x5, .inl x6]) (ds := [[(100, 139)], [(0, 7)], T32, [(0, 19)], [(0, 7)], T32, T32, [(0, 200)], [(0, 200)]]) (ks := [(5, 2), (110, 8)]) (σ := σ) (show pubOk ctP_copyv14 0 [false, false, false, false, false, false, false] [[(100, 139)], [(0, 7)], T32, [(0, 19)], [(0, 7)], T32, T32, [(0, 200)], [(0, 200)]] [(5, 2), (110, 8)] = true by decide +kernel) ⟨d0_16, d1_4, in32 _, d3_20, d4_8, in32 _, in32 _, r0 h.2.1 (k := (5, 2)) (by decide), r0 h.2.1 (k := (110, 8)) (by decide), trivial⟩ h.1
                      obtain ⟨rH, σ1, rM, σ2, ⟨r, e1, ⟨r2, e2, e3⟩, e4, e5⟩, hH, hM⟩ := root2_ok (E := E) (Y := Yf) (G := GX) (J := JJ) (D := DH) (C := pc_copy) (K2 := K2i false) (n := 3000) (zH := 35) (zM := 330) (arH := ctP_copyv14.ar) (arM := .r 110 :: ctP_copyv14.ar.tail) (kn := kn_copyv14) (big := 1000) GX_G GX_J ⟨GX_H, JJ_pb⟩ (F2_i (C := pc_copy) (by decide +kernel)) an_copy k2_copyv14_r (by decide +kernel) (by decide +kernel) k1 k2 (show Rs _ (.r 110 :: ctP_copyv14.ar.tail) (.ref 110 :: _) from ⟨rfl, k2.2⟩)
                      exact hH _ ⟨r, e1, hM _ ⟨⟨r2, e2⟩, e4, e5, Eqs.nil⟩⟩
                    · skip
                      rcases dc2 (x := x3.toInt) (lo := 20) (a := 99) (c := 100) (hi := 2147483647) (by decide) (d3_20) with d3_22 | d3_22
                      · skip
                        obtain ⟨k1, k2⟩ := pub_ok (J := JJ) (q := ctP_copyv15) (o := 0) (as := [.inl x0, .inl x1, .inl x2, .inl x3, .inl x4, .inl x5, .inl x6]) (ds := [[(100, 139)], [(0, 7)], T32, [(20, 99)], [(0, 7)], T32, T32, [(0, 200)], [(0, 200)]]) (ks := [(5, 2), (110, 8)]) (σ := σ) (show pubOk ctP_copyv15 0 [false, false, false, false, false, false, false] [[(100, 139)], [(0, 7)], T32, [(20, 99)], [(0, 7)], T32, T32, [(0, 200)], [(0, 200)]] [(5, 2), (110, 8)] = true by decide +kernel) ⟨d0_16, d1_4, in32 _, d3_22, d4_8, in32 _, in32 _, r0 h.2.1 (k := (5, 2)) (by decide), r0 h.2.1 (k := (110, 8)) (by decide), trivial⟩ h.1
                        obtain ⟨rH, σ1, rM, σ2, ⟨r, e1, ⟨r2, e2, e3⟩, e4, e5⟩, hH, hM⟩ := root2_ok (E := E) (Y := Yf) (G := GX) (J := JJ) (D := DH) (C := pc_copy) (K2 := K2i false) (n := 3000) (zH := 35) (zM := 330) (arH := ctP_copyv15.ar) (arM := .r 110 :: ctP_copyv15.ar.tail) (kn := kn_copyv15) (big := 1000) GX_G GX_J ⟨GX_H, JJ_pb⟩ (F2_i (C := pc_copy) (by decide +kernel)) an_copy k2_copyv15_r (by decide +kernel) (by decide +kernel) k1 k2 (show Rs _ (.r 110 :: ctP_copyv15.ar.tail) (.ref 110 :: _) from ⟨rfl, k2.2⟩)
                        exact hH _ ⟨r, e1, hM _ ⟨⟨r2, e2⟩, e4, e5, Eqs.nil⟩⟩
                      · skip
                        rcases dc2 (x := x3.toInt) (lo := 100) (a := 139) (c := 140) (hi := 2147483647) (by decide) (d3_22) with d3_24 | d3_24
                        · skip
                          obtain ⟨k1, k2⟩ := pub_ok (J := JJ) (q := ctP_copyv16) (o := 0) (as := [.inl x0, .inl x1, .inl x2, .inl x3, .inl x4, .inl x5, .inl x6]) (ds := [[(100, 139)], [(0, 7)], T32, [(100, 139)], [(0, 7)], T32, T32, [(0, 200)], [(0, 200)]]) (ks := [(5, 2), (110, 8)]) (σ := σ) (show pubOk ctP_copyv16 0 [false, false, false, false, false, false, false] [[(100, 139)], [(0, 7)], T32, [(100, 139)], [(0, 7)], T32, T32, [(0, 200)], [(0, 200)]] [(5, 2), (110, 8)] = true by decide +kernel) ⟨d0_16, d1_4, in32 _, d3_24, d4_8, in32 _, in32 _, r0 h.2.1 (k := (5, 2)) (by decide), r0 h.2.1 (k := (110, 8)) (by decide), trivial⟩ h.1
                          obtain ⟨rH, σ1, rM, σ2, ⟨r, e1, ⟨r2, e2, e3⟩, e4, e5⟩, hH, hM⟩ := root2_ok (E := E) (Y := Yf) (G := GX) (J := JJ) (D := DH) (C := pc_copy) (K2 := K2i false) (n := 3000) (zH := 35) (zM := 330) (arH := ctP_copyv16.ar) (arM := .r 110 :: ctP_copyv16.ar.tail) (kn := kn_copyv16) (big := 1000) GX_G GX_J ⟨GX_H, JJ_pb⟩ (F2_i (C := pc_copy) (by decide +kernel)) an_copy k2_copyv16_r (by decide +kernel) (by decide +kernel) k1 k2 (show Rs _ (.r 110 :: ctP_copyv16.ar.tail) (.ref 110 :: _) from ⟨rfl, k2.2⟩)
                          exact hH _ ⟨r, e1, hM _ ⟨⟨r2, e2⟩, e4, e5, Eqs.nil⟩⟩
                        · skip
                          obtain ⟨k1, k2⟩ := pub_ok (J := JJ) (q := ctP_copyv17) (o := 0) (as := [.inl x0, .inl x1, .inl x2, .inl x3, .inl x4, .inl x5, .inl x6]) (ds := [[(100, 139)], [(0, 7)], T32, [(140, 2147483647)], [(0, 7)], T32, T32, [(0, 200)], [(0, 200)]]) (ks := [(5, 2), (110, 8)]) (σ := σ) (show pubOk ctP_copyv17 0 [false, false, false, false, false, false, false] [[(100, 139)], [(0, 7)], T32, [(140, 2147483647)], [(0, 7)], T32, T32, [(0, 200)], [(0, 200)]] [(5, 2), (110, 8)] = true by decide +kernel) ⟨d0_16, d1_4, in32 _, d3_24, d4_8, in32 _, in32 _, r0 h.2.1 (k := (5, 2)) (by decide), r0 h.2.1 (k := (110, 8)) (by decide), trivial⟩ h.1
                          obtain ⟨rH, σ1, rM, σ2, ⟨r, e1, ⟨r2, e2, e3⟩, e4, e5⟩, hH, hM⟩ := root2_ok (E := E) (Y := Yf) (G := GX) (J := JJ) (D := DH) (C := pc_copy) (K2 := K2i false) (n := 3000) (zH := 35) (zM := 330) (arH := ctP_copyv17.ar) (arM := .r 110 :: ctP_copyv17.ar.tail) (kn := kn_copyv17) (big := 1000) GX_G GX_J ⟨GX_H, JJ_pb⟩ (F2_i (C := pc_copy) (by decide +kernel)) an_copy k2_copyv17_r (by decide +kernel) (by decide +kernel) k1 k2 (show Rs _ (.r 110 :: ctP_copyv17.ar.tail) (.ref 110 :: _) from ⟨rfl, k2.2⟩)
                          exact hH _ ⟨r, e1, hM _ ⟨⟨r2, e2⟩, e4, e5, Eqs.nil⟩⟩
                · skip
                  obtain ⟨k1, k2⟩ := pub_ok (J := JJ) (q := ctP_copyv18) (o := 0) (as := [.inl x0, .inl x1, .inl x2, .inl x3, .inl x4, .inl x5, .inl x6]) (ds := [[(140, 2147483647)], [(0, 7)], T32, T32, [(0, 7)], T32, T32, [(0, 200)], [(0, 200)]]) (ks := [(5, 2), (110, 8)]) (σ := σ) (show pubOk ctP_copyv18 0 [false, false, false, false, false, false, false] [[(140, 2147483647)], [(0, 7)], T32, T32, [(0, 7)], T32, T32, [(0, 200)], [(0, 200)]] [(5, 2), (110, 8)] = true by decide +kernel) ⟨d0_16, d1_4, in32 _, in32 _, d4_8, in32 _, in32 _, r0 h.2.1 (k := (5, 2)) (by decide), r0 h.2.1 (k := (110, 8)) (by decide), trivial⟩ h.1
                  obtain ⟨rH, σ1, rM, σ2, ⟨r, e1, ⟨r2, e2, e3⟩, e4, e5⟩, hH, hM⟩ := root2_ok (E := E) (Y := Yf) (G := GX) (J := JJ) (D := DH) (C := pc_copy) (K2 := K2i false) (n := 3000) (zH := 35) (zM := 330) (arH := ctP_copyv18.ar) (arM := .r 110 :: ctP_copyv18.ar.tail) (kn := kn_copyv18) (big := 1000) GX_G GX_J ⟨GX_H, JJ_pb⟩ (F2_i (C := pc_copy) (by decide +kernel)) an_copy k2_copyv18_r (by decide +kernel) (by decide +kernel) k1 k2 (show Rs _ (.r 110 :: ctP_copyv18.ar.tail) (.ref 110 :: _) from ⟨rfl, k2.2⟩)
                  exact hH _ ⟨r, e1, hM _ ⟨⟨r2, e2⟩, e4, e5, Eqs.nil⟩⟩
        · skip
          obtain ⟨k1, k2⟩ := pub_ok (J := JJ) (q := ctP_copyv19) (o := 0) (as := [.inl x0, .inl x1, .inl x2, .inl x3, .inl x4, .inl x5, .inl x6]) (ds := [T32, [(0, 7)], T32, T32, [(8, 2147483647)], T32, T32, [(0, 200)], [(0, 200)]]) (ks := [(5, 2), (110, 8)]) (σ := σ) (show pubOk ctP_copyv19 0 [false, false, false, false, false, false, false] [T32, [(0, 7)], T32, T32, [(8, 2147483647)], T32, T32, [(0, 200)], [(0, 200)]] [(5, 2), (110, 8)] = true by decide +kernel) ⟨in32 _, d1_4, in32 _, in32 _, d4_8, in32 _, in32 _, r0 h.2.1 (k := (5, 2)) (by decide), r0 h.2.1 (k := (110, 8)) (by decide), trivial⟩ h.1
          obtain ⟨rH, σ1, rM, σ2, ⟨r, e1, ⟨r2, e2, e3⟩, e4, e5⟩, hH, hM⟩ := root2_ok (E := E) (Y := Yf) (G := GX) (J := JJ) (D := DH) (C := pc_copy) (K2 := K2i false) (n := 3000) (zH := 35) (zM := 330) (arH := ctP_copyv19.ar) (arM := .r 110 :: ctP_copyv19.ar.tail) (kn := kn_copyv19) (big := 1000) GX_G GX_J ⟨GX_H, JJ_pb⟩ (F2_i (C := pc_copy) (by decide +kernel)) an_copy k2_copyv19_r (by decide +kernel) (by decide +kernel) k1 k2 (show Rs _ (.r 110 :: ctP_copyv19.ar.tail) (.ref 110 :: _) from ⟨rfl, k2.2⟩)
          exact hH _ ⟨r, e1, hM _ ⟨⟨r2, e2⟩, e4, e5, Eqs.nil⟩⟩
    · skip
      rcases dc2 (x := x3.toInt) (lo := (-2147483648)) (a := (-1)) (c := 0) (hi := 2147483647) (by decide) (in32 _) with d3_6 | d3_6
      · skip
        obtain ⟨k1, k2⟩ := pub_ok (J := JJ) (q := ctP_copyv20) (o := 0) (as := [.inl x0, .inl x1, .inl x2, .inl x3, .inl x4, .inl x5, .inl x6]) (ds := [T32, [(8, 2147483647)], T32, [((-2147483648), (-1))], T32, T32, T32, [(0, 200)], [(0, 200)]]) (ks := [(5, 2), (110, 8)]) (σ := σ) (show pubOk ctP_copyv20 0 [false, false, false, false, false, false, false] [T32, [(8, 2147483647)], T32, [((-2147483648), (-1))], T32, T32, T32, [(0, 200)], [(0, 200)]] [(5, 2), (110, 8)] = true by decide +kernel) ⟨in32 _, d1_4, in32 _, d3_6, in32 _, in32 _, in32 _, r0 h.2.1 (k := (5, 2)) (by decide), r0 h.2.1 (k := (110, 8)) (by decide), trivial⟩ h.1
        obtain ⟨rH, σ1, rM, σ2, ⟨r, e1, ⟨r2, e2, e3⟩, e4, e5⟩, hH, hM⟩ := root2_ok (E := E) (Y := Yf) (G := GX) (J := JJ) (D := DH) (C := pc_copy) (K2 := K2i false) (n := 3000) (zH := 35) (zM := 330) (arH := ctP_copyv20.ar) (arM := .r 110 :: ctP_copyv20.ar.tail) (kn := kn_copyv20) (big := 1000) GX_G GX_J ⟨GX_H, JJ_pb⟩ (F2_i (C := pc_copy) (by decide +kernel)) an_copy k2_copyv20_r (by decide +kernel) (by decide +kernel) k1 k2 (show Rs _ (.r 110 :: ctP_copyv20.ar.tail) (.ref 110 :: _) from ⟨rfl, k2.2⟩)
        exact hH _ ⟨r, e1, hM _ ⟨⟨r2, e2⟩, e4, e5, Eqs.nil⟩⟩
      · skip
        rcases dc2 (x := x3.toInt) (lo := 0) (a := 19) (c := 20) (hi := 2147483647) (by decide) (d3_6) with d3_8 | d3_8
        · skip
          obtain ⟨k1, k2⟩ := pub_ok (J := JJ) (q := ctP_copyv21) (o := 0) (as := [.inl x0, .inl x1, .inl x2, .inl x3, .inl x4, .inl x5, .inl x6]) (ds := [T32, [(8, 2147483647)], T32, [(0, 19)], T32, T32, T32, [(0, 200)], [(0, 200)]]) (ks := [(5, 2), (110, 8)]) (σ := σ) (show pubOk ctP_copyv21 0 [false, false, false, false, false, false, false] [T32, [(8, 2147483647)], T32, [(0, 19)], T32, T32, T32, [(0, 200)], [(0, 200)]] [(5, 2), (110, 8)] = true by decide +kernel) ⟨in32 _, d1_4, in32 _, d3_8, in32 _, in32 _, in32 _, r0 h.2.1 (k := (5, 2)) (by decide), r0 h.2.1 (k := (110, 8)) (by decide), trivial⟩ h.1
          obtain ⟨rH, σ1, rM, σ2, ⟨r, e1, ⟨r2, e2, e3⟩, e4, e5⟩, hH, hM⟩ := root2_ok (E := E) (Y := Yf) (G := GX) (J := JJ) (D := DH) (C := pc_copy) (K2 := K2i false) (n := 3000) (zH := 35) (zM := 330) (arH := ctP_copyv21.ar) (arM := .r 110 :: ctP_copyv21.ar.tail) (kn := kn_copyv21) (big := 1000) GX_G GX_J ⟨GX_H, JJ_pb⟩ (F2_i (C := pc_copy) (by decide +kernel)) an_copy k2_copyv21_r (by decide +kernel) (by decide +kernel) k1 k2 (show Rs _ (.r 110 :: ctP_copyv21.ar.tail) (.ref 110 :: _) from ⟨rfl, k2.2⟩)
          exact hH _ ⟨r, e1, hM _ ⟨⟨r2, e2⟩, e4, e5, Eqs.nil⟩⟩
        · skip
          rcases dc2 (x := x3.toInt) (lo := 20) (a := 99) (c := 100) (hi := 2147483647) (by decide) (d3_8) with d3_10 | d3_10
          · skip
            obtain ⟨k1, k2⟩ := pub_ok (J := JJ) (q := ctP_copyv22) (o := 0) (as := [.inl x0, .inl x1, .inl x2, .inl x3, .inl x4, .inl x5, .inl x6]) (ds := [T32, [(8, 2147483647)], T32, [(20, 99)], T32, T32, T32, [(0, 200)], [(0, 200)]]) (ks := [(5, 2), (110, 8)]) (σ := σ) (show pubOk ctP_copyv22 0 [false, false, false, false, false, false, false] [T32, [(8, 2147483647)], T32, [(20, 99)], T32, T32, T32, [(0, 200)], [(0, 200)]] [(5, 2), (110, 8)] = true by decide +kernel) ⟨in32 _, d1_4, in32 _, d3_10, in32 _, in32 _, in32 _, r0 h.2.1 (k := (5, 2)) (by decide), r0 h.2.1 (k := (110, 8)) (by decide), trivial⟩ h.1
            obtain ⟨rH, σ1, rM, σ2, ⟨r, e1, ⟨r2, e2, e3⟩, e4, e5⟩, hH, hM⟩ := root2_ok (E := E) (Y := Yf) (G := GX) (J := JJ) (D := DH) (C := pc_copy) (K2 := K2i false) (n := 3000) (zH := 35) (zM := 330) (arH := ctP_copyv22.ar) (arM := .r 110 :: ctP_copyv22.ar.tail) (kn := kn_copyv22) (big := 1000) GX_G GX_J ⟨GX_H, JJ_pb⟩ (F2_i (C := pc_copy) (by decide +kernel)) an_copy k2_copyv22_r (by decide +kernel) (by decide +kernel) k1 k2 (show Rs _ (.r 110 :: ctP_copyv22.ar.tail) (.ref 110 :: _) from ⟨rfl, k2.2⟩)
            exact hH _ ⟨r, e1, hM _ ⟨⟨r2, e2⟩, e4, e5, Eqs.nil⟩⟩
          · skip
            rcases dc2 (x := x3.toInt) (lo := 100) (a := 139) (c := 140) (hi := 2147483647) (by decide) (d3_10) with d3_12 | d3_12
            · skip
              obtain ⟨k1, k2⟩ := pub_ok (J := JJ) (q := ctP_copyv23) (o := 0) (as := [.inl x0, .inl x1, .inl x2, .inl x3, .inl x4, .inl x5, .inl x6]) (ds := [T32, [(8, 2147483647)], T32, [(100, 139)], T32, T32, T32, [(0, 200)], [(0, 200)]]) (ks := [(5, 2), (110, 8)]) (σ := σ) (show pubOk ctP_copyv23 0 [false, false, false, false, false, false, false] [T32, [(8, 2147483647)], T32, [(100, 139)], T32, T32, T32, [(0, 200)], [(0, 200)]] [(5, 2), (110, 8)] = true by decide +kernel) ⟨in32 _, d1_4, in32 _, d3_12, in32 _, in32 _, in32 _, r0 h.2.1 (k := (5, 2)) (by decide), r0 h.2.1 (k := (110, 8)) (by decide), trivial⟩ h.1
              obtain ⟨rH, σ1, rM, σ2, ⟨r, e1, ⟨r2, e2, e3⟩, e4, e5⟩, hH, hM⟩ := root2_ok (E := E) (Y := Yf) (G := GX) (J := JJ) (D := DH) (C := pc_copy) (K2 := K2i false) (n := 3000) (zH := 35) (zM := 330) (arH := ctP_copyv23.ar) (arM := .r 110 :: ctP_copyv23.ar.tail) (kn := kn_copyv23) (big := 1000) GX_G GX_J ⟨GX_H, JJ_pb⟩ (F2_i (C := pc_copy) (by decide +kernel)) an_copy k2_copyv23_r (by decide +kernel) (by decide +kernel) k1 k2 (show Rs _ (.r 110 :: ctP_copyv23.ar.tail) (.ref 110 :: _) from ⟨rfl, k2.2⟩)
              exact hH _ ⟨r, e1, hM _ ⟨⟨r2, e2⟩, e4, e5, Eqs.nil⟩⟩
            · skip
              obtain ⟨k1, k2⟩ := pub_ok (J := JJ) (q := ctP_copyv24) (o := 0) (as := [.inl x0, .inl x1, .inl x2, .inl x3, .inl x4, .inl x5, .inl x6]) (ds := [T32, [(8, 2147483647)], T32, [(140, 2147483647)], T32, T32, T32, [(0, 200)], [(0, 200)]]) (ks := [(5, 2), (110, 8)]) (σ := σ) (show pubOk ctP_copyv24 0 [false, false, false, false, false, false, false] [T32, [(8, 2147483647)], T32, [(140, 2147483647)], T32, T32, T32, [(0, 200)], [(0, 200)]] [(5, 2), (110, 8)] = true by decide +kernel) ⟨in32 _, d1_4, in32 _, d3_12, in32 _, in32 _, in32 _, r0 h.2.1 (k := (5, 2)) (by decide), r0 h.2.1 (k := (110, 8)) (by decide), trivial⟩ h.1
              obtain ⟨rH, σ1, rM, σ2, ⟨r, e1, ⟨r2, e2, e3⟩, e4, e5⟩, hH, hM⟩ := root2_ok (E := E) (Y := Yf) (G := GX) (J := JJ) (D := DH) (C := pc_copy) (K2 := K2i false) (n := 3000) (zH := 35) (zM := 330) (arH := ctP_copyv24.ar) (arM := .r 110 :: ctP_copyv24.ar.tail) (kn := kn_copyv24) (big := 1000) GX_G GX_J ⟨GX_H, JJ_pb⟩ (F2_i (C := pc_copy) (by decide +kernel)) an_copy k2_copyv24_r (by decide +kernel) (by decide +kernel) k1 k2 (show Rs _ (.r 110 :: ctP_copyv24.ar.tail) (.ref 110 :: _) from ⟨rfl, k2.2⟩)
              exact hH _ ⟨r, e1, hM _ ⟨⟨r2, e2⟩, e4, e5, Eqs.nil⟩⟩
theorem LC_13_ok {E : xV} {σ : zS} (h : J0 σ) : LC_13 E σ J0 := by
  intro x0 x1
  obtain ⟨k1, k2⟩ := pub_ok (J := JJ) (q := ctH_thing) (o := 0) (as := [.inl x0, .inl x1]) (ds := [T32, T32, [(0, 200)], [(0, 200)]]) (ks := [(5, 2), (110, 8)]) (σ := σ) (show pubOk ctH_thing 0 [false, false] [T32, T32, [(0, 200)], [(0, 200)]] [(5, 2), (110, 8)] = true by decide +kernel) ⟨in32 _, in32 _, r0 h.2.1 (k := (5, 2)) (by decide), r0 h.2.1 (k := (110, 8)) (by decide), trivial⟩ h.1
  refine (cH_thing (E := E) _ σ _ k1 k2).mono (fun v σ1 hv => ?_)
  obtain ⟨_, al, f2, ρ1, f3, f4, f5⟩ := hv
  rcases List.mem_cons.mp f2 with rfl | f2
  · obtain ⟨r, e, q⟩ := pair_i (E := E) (z := 333) (o1 := 0) (o2 := 110) (m := ctM_thing_0) (ar := ctH_thing.ar.tail) (a := .c (-3)) (kn := kn_thing_0) (kn' := knE_thing_0) cM_thing_0 rfl rfl rfl (by decide +kernel) f4 f5 k2 f3 rfl
    exact ⟨r, e, q.mono (fun v' σ2 hq => ⟨⟨r, hq.1⟩, hq.2.1, hq.2.2, Eqs.nil⟩)⟩
  rcases List.mem_cons.mp f2 with rfl | f2
  · obtain ⟨r, e, q⟩ := pair_i (E := E) (z := 333) (o1 := 0) (o2 := 110) (m := ctM_thing_1) (ar := ctH_thing.ar.tail) (a := v9_4) (kn := kn_thing_1) (kn' := knE_thing_1) cM_thing_1 rfl rfl rfl (by decide +kernel) f4 f5 k2 f3 rfl
    exact ⟨r, e, q.mono (fun v' σ2 hq => ⟨⟨r, hq.1⟩, hq.2.1, hq.2.2, Eqs.nil⟩)⟩
  rcases List.mem_cons.mp f2 with rfl | f2
  · obtain ⟨r, e, q⟩ := pair_i (E := E) (z := 333) (o1 := 0) (o2 := 110) (m := ctM_thing_2) (ar := ctH_thing.ar.tail) (a := .c (-1)) (kn := kn_thing_2) (kn' := knE_thing_2) cM_thing_2 rfl rfl rfl (by decide +kernel) f4 f5 k2 f3 rfl
    exact ⟨r, e, q.mono (fun v' σ2 hq => ⟨⟨r, hq.1⟩, hq.2.1, hq.2.2, Eqs.nil⟩)⟩
  rcases List.mem_cons.mp f2 with rfl | f2
  · obtain ⟨r, e, q⟩ := pair_i (E := E) (z := 333) (o1 := 0) (o2 := 110) (m := ctM_thing_3) (ar := ctH_thing.ar.tail) (a := .c (-1)) (kn := kn_thing_3) (kn' := knE_thing_3) cM_thing_3 rfl rfl rfl (by decide +kernel) f4 f5 k2 f3 rfl
    exact ⟨r, e, q.mono (fun v' σ2 hq => ⟨⟨r, hq.1⟩, hq.2.1, hq.2.2, Eqs.nil⟩)⟩
  rcases List.mem_cons.mp f2 with rfl | f2
  · obtain ⟨r, e, q⟩ := pair_i (E := E) (z := 333) (o1 := 0) (o2 := 110) (m := ctM_thing_4) (ar := ctH_thing.ar.tail) (a := .c (-3)) (kn := kn_thing_4) (kn' := knE_thing_4) cM_thing_4 rfl rfl rfl (by decide +kernel) f4 f5 k2 f3 rfl
    exact ⟨r, e, q.mono (fun v' σ2 hq => ⟨⟨r, hq.1⟩, hq.2.1, hq.2.2, Eqs.nil⟩)⟩
  rcases List.mem_cons.mp f2 with rfl | f2
  · obtain ⟨r, e, q⟩ := pair_i (E := E) (z := 333) (o1 := 0) (o2 := 110) (m := ctM_thing_5) (ar := ctH_thing.ar.tail) (a := v9_4) (kn := kn_thing_5) (kn' := knE_thing_5) cM_thing_5 rfl rfl rfl (by decide +kernel) f4 f5 k2 f3 rfl
    exact ⟨r, e, q.mono (fun v' σ2 hq => ⟨⟨r, hq.1⟩, hq.2.1, hq.2.2, Eqs.nil⟩)⟩
  rcases List.mem_cons.mp f2 with rfl | f2
  · obtain ⟨r, e, q⟩ := pair_i (E := E) (z := 333) (o1 := 0) (o2 := 110) (m := ctM_thing_6) (ar := ctH_thing.ar.tail) (a := .c (-1)) (kn := kn_thing_6) (kn' := knE_thing_6) cM_thing_6 rfl rfl rfl (by decide +kernel) f4 f5 k2 f3 rfl
    exact ⟨r, e, q.mono (fun v' σ2 hq => ⟨⟨r, hq.1⟩, hq.2.1, hq.2.2, Eqs.nil⟩)⟩
  rcases List.mem_cons.mp f2 with rfl | f2
  · obtain ⟨r, e, q⟩ := pair_i (E := E) (z := 333) (o1 := 0) (o2 := 110) (m := ctM_thing_7) (ar := ctH_thing.ar.tail) (a := .c (-1)) (kn := kn_thing_7) (kn' := knE_thing_7) cM_thing_7 rfl rfl rfl (by decide +kernel) f4 f5 k2 f3 rfl
    exact ⟨r, e, q.mono (fun v' σ2 hq => ⟨⟨r, hq.1⟩, hq.2.1, hq.2.2, Eqs.nil⟩)⟩
  rcases List.mem_cons.mp f2 with rfl | f2
  · obtain ⟨r, e, q⟩ := pair_i (E := E) (z := 333) (o1 := 0) (o2 := 110) (m := ctM_thing_8) (ar := ctH_thing.ar.tail) (a := .c (-1)) (kn := kn_thing_8) (kn' := knE_thing_8) cM_thing_8 rfl rfl rfl (by decide +kernel) f4 f5 k2 f3 rfl
    exact ⟨r, e, q.mono (fun v' σ2 hq => ⟨⟨r, hq.1⟩, hq.2.1, hq.2.2, Eqs.nil⟩)⟩
  · cases f2
theorem LC_14_ok {E : xV} {σ : zS} (h : J0 σ) : LC_14 E σ J0 := by
  intro x0 x1
  obtain ⟨k1, k2⟩ := pub_ok (J := JJ) (q := ctH_move) (o := 0) (as := [.inl x0, .inl x1]) (ds := [T32, T32, [(0, 200)], [(0, 200)]]) (ks := [(5, 2), (110, 8)]) (σ := σ) (show pubOk ctH_move 0 [false, false] [T32, T32, [(0, 200)], [(0, 200)]] [(5, 2), (110, 8)] = true by decide +kernel) ⟨in32 _, in32 _, r0 h.2.1 (k := (5, 2)) (by decide), r0 h.2.1 (k := (110, 8)) (by decide), trivial⟩ h.1
  refine (cH_move (E := E) _ σ _ k1 k2).mono (fun v σ1 hv => ?_)
  obtain ⟨_, al, f2, ρ1, f3, f4, f5⟩ := hv
  rcases List.mem_cons.mp f2 with rfl | f2
  · obtain ⟨r, e, q⟩ := pair_i (E := E) (z := 334) (o1 := 0) (o2 := 110) (m := ctM_move_0) (ar := ctH_move.ar.tail) (a := .c (-2)) (kn := kn_move_0) (kn' := knE_move_0) cM_move_0 rfl rfl rfl (by decide +kernel) f4 f5 k2 f3 rfl
    exact ⟨r, e, q.mono (fun v' σ2 hq => ⟨⟨r, hq.1⟩, hq.2.1, hq.2.2, Eqs.nil⟩)⟩
  rcases List.mem_cons.mp f2 with rfl | f2
  · obtain ⟨r, e, q⟩ := pair_i (E := E) (z := 334) (o1 := 0) (o2 := 110) (m := ctM_move_1) (ar := ctH_move.ar.tail) (a := c9_1) (kn := kn_move_1) (kn' := knE_move_1) cM_move_1 rfl rfl rfl (by decide +kernel) f4 f5 k2 f3 rfl
    exact ⟨r, e, q.mono (fun v' σ2 hq => ⟨⟨r, hq.1⟩, hq.2.1, hq.2.2, Eqs.nil⟩)⟩
  rcases List.mem_cons.mp f2 with rfl | f2
  · obtain ⟨r, e, q⟩ := pair_i (E := E) (z := 334) (o1 := 0) (o2 := 110) (m := ctM_move_2) (ar := ctH_move.ar.tail) (a := .c (-1)) (kn := kn_move_2) (kn' := knE_move_2) cM_move_2 rfl rfl rfl (by decide +kernel) f4 f5 k2 f3 rfl
    exact ⟨r, e, q.mono (fun v' σ2 hq => ⟨⟨r, hq.1⟩, hq.2.1, hq.2.2, Eqs.nil⟩)⟩
  rcases List.mem_cons.mp f2 with rfl | f2
  · obtain ⟨r, e, q⟩ := pair_i (E := E) (z := 334) (o1 := 0) (o2 := 110) (m := ctM_move_3) (ar := ctH_move.ar.tail) (a := .c (-1)) (kn := kn_move_3) (kn' := knE_move_3) cM_move_3 rfl rfl rfl (by decide +kernel) f4 f5 k2 f3 rfl
    exact ⟨r, e, q.mono (fun v' σ2 hq => ⟨⟨r, hq.1⟩, hq.2.1, hq.2.2, Eqs.nil⟩)⟩
  rcases List.mem_cons.mp f2 with rfl | f2
  · obtain ⟨r, e, q⟩ := pair_i (E := E) (z := 334) (o1 := 0) (o2 := 110) (m := ctM_move_4) (ar := ctH_move.ar.tail) (a := .c (-1)) (kn := kn_move_4) (kn' := knE_move_4) cM_move_4 rfl rfl rfl (by decide +kernel) f4 f5 k2 f3 rfl
    exact ⟨r, e, q.mono (fun v' σ2 hq => ⟨⟨r, hq.1⟩, hq.2.1, hq.2.2, Eqs.nil⟩)⟩
  rcases List.mem_cons.mp f2 with rfl | f2
  · obtain ⟨r, e, q⟩ := pair_i (E := E) (z := 334) (o1 := 0) (o2 := 110) (m := ctM_move_5) (ar := ctH_move.ar.tail) (a := .c (-1)) (kn := kn_move_5) (kn' := knE_move_5) cM_move_5 rfl rfl rfl (by decide +kernel) f4 f5 k2 f3 rfl
    exact ⟨r, e, q.mono (fun v' σ2 hq => ⟨⟨r, hq.1⟩, hq.2.1, hq.2.2, Eqs.nil⟩)⟩
  rcases List.mem_cons.mp f2 with rfl | f2
  · obtain ⟨r, e, q⟩ := pair_i (E := E) (z := 334) (o1 := 0) (o2 := 110) (m := ctM_move_6) (ar := ctH_move.ar.tail) (a := .c (-1)) (kn := kn_move_6) (kn' := knE_move_6) cM_move_6 rfl rfl rfl (by decide +kernel) f4 f5 k2 f3 rfl
    exact ⟨r, e, q.mono (fun v' σ2 hq => ⟨⟨r, hq.1⟩, hq.2.1, hq.2.2, Eqs.nil⟩)⟩
  rcases List.mem_cons.mp f2 with rfl | f2
  · obtain ⟨r, e, q⟩ := pair_i (E := E) (z := 334) (o1 := 0) (o2 := 110) (m := ctM_move_7) (ar := ctH_move.ar.tail) (a := .c (-1)) (kn := kn_move_7) (kn' := knE_move_7) cM_move_7 rfl rfl rfl (by decide +kernel) f4 f5 k2 f3 rfl
    exact ⟨r, e, q.mono (fun v' σ2 hq => ⟨⟨r, hq.1⟩, hq.2.1, hq.2.2, Eqs.nil⟩)⟩
  rcases List.mem_cons.mp f2 with rfl | f2
  · obtain ⟨r, e, q⟩ := pair_i (E := E) (z := 334) (o1 := 0) (o2 := 110) (m := ctM_move_8) (ar := ctH_move.ar.tail) (a := .c (-1)) (kn := kn_move_8) (kn' := knE_move_8) cM_move_8 rfl rfl rfl (by decide +kernel) f4 f5 k2 f3 rfl
    exact ⟨r, e, q.mono (fun v' σ2 hq => ⟨⟨r, hq.1⟩, hq.2.1, hq.2.2, Eqs.nil⟩)⟩
  · cases f2
theorem LC_15_ok {E : xV} {σ : zS} (h : J0 σ) : LC_15 E σ J0 := by
  intro x0 x1 hbool
  have b_x1 : inD (Arg.i (.inl x1)) [(0, 1)] := by rcases hbool with rfl | rfl <;> exact ⟨_, List.mem_cons_self .., by decide, by decide⟩
  obtain ⟨k1, k2⟩ := pub_ok (J := JJ) (q := ctH_cutOff) (o := 0) (as := [.inl x0, .inl x1]) (ds := [T32, [(0, 1)], [(0, 200)], [(0, 200)]]) (ks := [(5, 2), (110, 8)]) (σ := σ) (show pubOk ctH_cutOff 0 [false, false] [T32, [(0, 1)], [(0, 200)], [(0, 200)]] [(5, 2), (110, 8)] = true by decide +kernel) ⟨in32 _, b_x1, r0 h.2.1 (k := (5, 2)) (by decide), r0 h.2.1 (k := (110, 8)) (by decide), trivial⟩ h.1
  refine (cH_cutOff (E := E) _ σ _ k1 k2).mono (fun v σ1 hv => ?_)
  obtain ⟨_, al, f2, ρ1, f3, f4, f5⟩ := hv
  rcases List.mem_cons.mp f2 with rfl | f2
  · obtain ⟨r, e, q⟩ := pair_i (E := E) (z := 335) (o1 := 0) (o2 := 110) (m := ctM_cutOff_0) (ar := ctH_cutOff.ar.tail) (a := c9_1) (kn := kn_cutOff_0) (kn' := knE_cutOff_0) cM_cutOff_0 rfl rfl rfl (by decide +kernel) f4 f5 k2 f3 rfl
    exact ⟨r, e, q.mono (fun v' σ2 hq => ⟨⟨r, hq.1⟩, hq.2.1, hq.2.2, Eqs.nil⟩)⟩
  rcases List.mem_cons.mp f2 with rfl | f2
  · obtain ⟨r, e, q⟩ := pair_i (E := E) (z := 335) (o1 := 0) (o2 := 110) (m := ctM_cutOff_1) (ar := ctH_cutOff.ar.tail) (a := c9_0) (kn := kn_cutOff_1) (kn' := knE_cutOff_1) cM_cutOff_1 rfl rfl rfl (by decide +kernel) f4 f5 k2 f3 rfl
    exact ⟨r, e, q.mono (fun v' σ2 hq => ⟨⟨r, hq.1⟩, hq.2.1, hq.2.2, Eqs.nil⟩)⟩
  rcases List.mem_cons.mp f2 with rfl | f2
  · obtain ⟨r, e, q⟩ := pair_i (E := E) (z := 335) (o1 := 0) (o2 := 110) (m := ctM_cutOff_2) (ar := ctH_cutOff.ar.tail) (a := c9_1) (kn := kn_cutOff_2) (kn' := knE_cutOff_2) cM_cutOff_2 rfl rfl rfl (by decide +kernel) f4 f5 k2 f3 rfl
    exact ⟨r, e, q.mono (fun v' σ2 hq => ⟨⟨r, hq.1⟩, hq.2.1, hq.2.2, Eqs.nil⟩)⟩
  rcases List.mem_cons.mp f2 with rfl | f2
  · obtain ⟨r, e, q⟩ := pair_i (E := E) (z := 335) (o1 := 0) (o2 := 110) (m := ctM_cutOff_3) (ar := ctH_cutOff.ar.tail) (a := .c (-1)) (kn := kn_cutOff_3) (kn' := knE_cutOff_3) cM_cutOff_3 rfl rfl rfl (by decide +kernel) f4 f5 k2 f3 rfl
    exact ⟨r, e, q.mono (fun v' σ2 hq => ⟨⟨r, hq.1⟩, hq.2.1, hq.2.2, Eqs.nil⟩)⟩
  rcases List.mem_cons.mp f2 with rfl | f2
  · obtain ⟨r, e, q⟩ := pair_i (E := E) (z := 335) (o1 := 0) (o2 := 110) (m := ctM_cutOff_4) (ar := ctH_cutOff.ar.tail) (a := .c (-1)) (kn := kn_cutOff_4) (kn' := knE_cutOff_4) cM_cutOff_4 rfl rfl rfl (by decide +kernel) f4 f5 k2 f3 rfl
    exact ⟨r, e, q.mono (fun v' σ2 hq => ⟨⟨r, hq.1⟩, hq.2.1, hq.2.2, Eqs.nil⟩)⟩
  rcases List.mem_cons.mp f2 with rfl | f2
  · obtain ⟨r, e, q⟩ := pair_i (E := E) (z := 335) (o1 := 0) (o2 := 110) (m := ctM_cutOff_5) (ar := ctH_cutOff.ar.tail) (a := .c (-1)) (kn := kn_cutOff_5) (kn' := knE_cutOff_5) cM_cutOff_5 rfl rfl rfl (by decide +kernel) f4 f5 k2 f3 rfl
    exact ⟨r, e, q.mono (fun v' σ2 hq => ⟨⟨r, hq.1⟩, hq.2.1, hq.2.2, Eqs.nil⟩)⟩
  · cases f2
theorem LC_16_ok {E : xV} {σ : zS} (h : J0 σ) : LC_16 E σ J0 := by
  intro x0
  obtain ⟨k1, k2⟩ := pub_ok (J := JJ) (q := ctH_drop) (o := 0) (as := [.inl x0]) (ds := [T32, [(0, 200)], [(0, 200)]]) (ks := [(5, 2), (110, 8)]) (σ := σ) (show pubOk ctH_drop 0 [false] [T32, [(0, 200)], [(0, 200)]] [(5, 2), (110, 8)] = true by decide +kernel) ⟨in32 _, r0 h.2.1 (k := (5, 2)) (by decide), r0 h.2.1 (k := (110, 8)) (by decide), trivial⟩ h.1
  refine (cH_drop (E := E) _ σ _ k1 k2).mono (fun v σ1 hv => ?_)
  obtain ⟨_, al, f2, ρ1, f3, f4, f5⟩ := hv
  rcases List.mem_cons.mp f2 with rfl | f2
  · obtain ⟨r, e, q⟩ := pair_i (E := E) (z := 336) (o1 := 0) (o2 := 110) (m := ctM_drop_0) (ar := ctH_drop.ar.tail) (a := .c (-2)) (kn := kn_drop_0) (kn' := knE_drop_0) cM_drop_0 rfl rfl rfl (by decide +kernel) f4 f5 k2 f3 rfl
    exact ⟨r, e, q.mono (fun v' σ2 hq => ⟨⟨r, hq.1⟩, hq.2.1, hq.2.2, Eqs.nil⟩)⟩
  rcases List.mem_cons.mp f2 with rfl | f2
  · obtain ⟨r, e, q⟩ := pair_i (E := E) (z := 336) (o1 := 0) (o2 := 110) (m := ctM_drop_1) (ar := ctH_drop.ar.tail) (a := c9_1) (kn := kn_drop_1) (kn' := knE_drop_1) cM_drop_1 rfl rfl rfl (by decide +kernel) f4 f5 k2 f3 rfl
    exact ⟨r, e, q.mono (fun v' σ2 hq => ⟨⟨r, hq.1⟩, hq.2.1, hq.2.2, Eqs.nil⟩)⟩
  rcases List.mem_cons.mp f2 with rfl | f2
  · obtain ⟨r, e, q⟩ := pair_i (E := E) (z := 336) (o1 := 0) (o2 := 110) (m := ctM_drop_2) (ar := ctH_drop.ar.tail) (a := .c (-1)) (kn := kn_drop_2) (kn' := knE_drop_2) cM_drop_2 rfl rfl rfl (by decide +kernel) f4 f5 k2 f3 rfl
    exact ⟨r, e, q.mono (fun v' σ2 hq => ⟨⟨r, hq.1⟩, hq.2.1, hq.2.2, Eqs.nil⟩)⟩
  rcases List.mem_cons.mp f2 with rfl | f2
  · obtain ⟨r, e, q⟩ := pair_i (E := E) (z := 336) (o1 := 0) (o2 := 110) (m := ctM_drop_3) (ar := ctH_drop.ar.tail) (a := .c (-1)) (kn := kn_drop_3) (kn' := knE_drop_3) cM_drop_3 rfl rfl rfl (by decide +kernel) f4 f5 k2 f3 rfl
    exact ⟨r, e, q.mono (fun v' σ2 hq => ⟨⟨r, hq.1⟩, hq.2.1, hq.2.2, Eqs.nil⟩)⟩
  rcases List.mem_cons.mp f2 with rfl | f2
  · obtain ⟨r, e, q⟩ := pair_i (E := E) (z := 336) (o1 := 0) (o2 := 110) (m := ctM_drop_4) (ar := ctH_drop.ar.tail) (a := .c (-1)) (kn := kn_drop_4) (kn' := knE_drop_4) cM_drop_4 rfl rfl rfl (by decide +kernel) f4 f5 k2 f3 rfl
    exact ⟨r, e, q.mono (fun v' σ2 hq => ⟨⟨r, hq.1⟩, hq.2.1, hq.2.2, Eqs.nil⟩)⟩
  rcases List.mem_cons.mp f2 with rfl | f2
  · obtain ⟨r, e, q⟩ := pair_i (E := E) (z := 336) (o1 := 0) (o2 := 110) (m := ctM_drop_5) (ar := ctH_drop.ar.tail) (a := .c (-1)) (kn := kn_drop_5) (kn' := knE_drop_5) cM_drop_5 rfl rfl rfl (by decide +kernel) f4 f5 k2 f3 rfl
    exact ⟨r, e, q.mono (fun v' σ2 hq => ⟨⟨r, hq.1⟩, hq.2.1, hq.2.2, Eqs.nil⟩)⟩
  · cases f2
