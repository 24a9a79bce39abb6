noncomputable section
theorem stkH_tick {E : xV} : BT.AllP (fun z qs => ∀ q ∈ qs, ScOk E Yf DH JJ z q.1 q.2) stH_tick := trivial
theorem stkM_tick {E : xV} : BT.AllP (fun z qs => ∀ q ∈ qs, ScOk E Yf (dN DH) JJ z q.1 q.2) stM_tick := trivial
theorem an_tick : ∀ a ∈ pc_tick.an, chk2 GX pc_tick DH 3000 a = true ∧ sdOk a = true := fun a ha => by cases ha
theorem LC_2_ok {E : xV} {σ : zS} (h : J0 σ) : LC_2 E σ J0 := by
  intro x0
  obtain ⟨k1, k2⟩ := pub_ok (J := JJ) (q := ctP_tick) (o := 0) (as := [.inl x0]) (ds := [T32, [(0, 200)], [(0, 200)]]) (ks := [(5, 2), (110, 8)]) (σ := σ) (show pubOk ctP_tick 0 [false] [T32, [(0, 200)], [(0, 200)]] [(5, 2), (110, 8)] = true by decide +kernel) ⟨in32 _, r0 h.2.1 (k := (5, 2)) (by decide), r0 h.2.1 (k := (110, 8)) (by decide), trivial⟩ h.1
  obtain ⟨rH, σ1, rM, σ2, ⟨r, e1, ⟨r2, e2, e3⟩, e4, e5⟩, hH, hM⟩ := root2_ok (E := E) (Y := Yf) (G := GX) (J := JJ) (D := DH) (C := pc_tick) (K2 := K2i false) (n := 3000) (zH := 3) (zM := 304) (arH := ctP_tick.ar) (arM := .r 110 :: ctP_tick.ar.tail) (kn := kn_tick) (big := 1) GX_G GX_J ⟨GX_H, JJ_pb⟩ ⟨fun _ _ h => stkH_tick.at h, fun _ _ h => stkM_tick.at h⟩ (F2_i (C := pc_tick) (by decide +kernel)) an_tick k2_tick_r (by decide +kernel) (by decide +kernel) k1 k2 (show Rs _ (.r 110 :: ctP_tick.ar.tail) (.ref 110 :: _) from ⟨rfl, k2.2⟩)
  exact hH _ ⟨r, e1, hM _ ⟨⟨r2, e2⟩, e4, e5, Eqs.nil⟩⟩
theorem LC_3_ok {E : xV} {σ : zS} (h : J0 σ) : LC_3 E σ J0 := by
  obtain ⟨k1, k2⟩ := pub_ok (J := JJ) (q := ctH_person) (o := 0) (as := []) (ds := [[(0, 200)], [(0, 200)]]) (ks := [(5, 2), (110, 8)]) (σ := σ) (show pubOk ctH_person 0 [] [[(0, 200)], [(0, 200)]] [(5, 2), (110, 8)] = true by decide +kernel) ⟨r0 h.2.1 (k := (5, 2)) (by decide), r0 h.2.1 (k := (110, 8)) (by decide), trivial⟩ h.1
  refine (cH_person (E := E) _ σ _ k1 k2).mono (fun v σ1 hv => ?_)
  obtain ⟨_, al, f2, ρ1, f3, f4, f5⟩ := hv
  rcases List.mem_cons.mp f2 with rfl | f2
  · obtain ⟨r, e, q⟩ := pair_i (E := E) (z := 312) (o1 := 0) (o2 := 110) (m := ctM_person_0) (ar := ctH_person.ar.tail) (a := .c (-3)) (kn := kn_person_0) (kn' := knE_person_0) cM_person_0 rfl rfl rfl (by decide +kernel) f4 f5 k2 f3 rfl
    exact ⟨r, e, q.mono (fun v' σ2 hq => ⟨⟨r, hq.1⟩, hq.2.1, hq.2.2, Eqs.nil⟩)⟩
  rcases List.mem_cons.mp f2 with rfl | f2
  · obtain ⟨r, e, q⟩ := pair_i (E := E) (z := 312) (o1 := 0) (o2 := 110) (m := ctM_person_1) (ar := ctH_person.ar.tail) (a := v9_2) (kn := kn_person_1) (kn' := knE_person_1) cM_person_1 rfl rfl rfl (by decide +kernel) f4 f5 k2 f3 rfl
    exact ⟨r, e, q.mono (fun v' σ2 hq => ⟨⟨r, hq.1⟩, hq.2.1, hq.2.2, Eqs.nil⟩)⟩
  · cases f2
theorem LC_4_ok {E : xV} {σ : zS} (h : J0 σ) : LC_4 E σ J0 := by
  obtain ⟨k1, k2⟩ := pub_ok (J := JJ) (q := ctH_group) (o := 0) (as := []) (ds := [[(0, 200)], [(0, 200)]]) (ks := [(5, 2), (110, 8)]) (σ := σ) (show pubOk ctH_group 0 [] [[(0, 200)], [(0, 200)]] [(5, 2), (110, 8)] = true by decide +kernel) ⟨r0 h.2.1 (k := (5, 2)) (by decide), r0 h.2.1 (k := (110, 8)) (by decide), trivial⟩ h.1
  refine (cH_group (E := E) _ σ _ k1 k2).mono (fun v σ1 hv => ?_)
  obtain ⟨_, al, f2, ρ1, f3, f4, f5⟩ := hv
  rcases List.mem_cons.mp f2 with rfl | f2
  · obtain ⟨r, e, q⟩ := pair_i (E := E) (z := 313) (o1 := 0) (o2 := 110) (m := ctM_group_0) (ar := ctH_group.ar.tail) (a := .c (-3)) (kn := kn_group_0) (kn' := knE_group_0) cM_group_0 rfl rfl rfl (by decide +kernel) f4 f5 k2 f3 rfl
    exact ⟨r, e, q.mono (fun v' σ2 hq => ⟨⟨r, hq.1⟩, hq.2.1, hq.2.2, Eqs.nil⟩)⟩
  rcases List.mem_cons.mp f2 with rfl | f2
  · obtain ⟨r, e, q⟩ := pair_i (E := E) (z := 313) (o1 := 0) (o2 := 110) (m := ctM_group_1) (ar := ctH_group.ar.tail) (a := v9_2) (kn := kn_group_1) (kn' := knE_group_1) cM_group_1 rfl rfl rfl (by decide +kernel) f4 f5 k2 f3 rfl
    exact ⟨r, e, q.mono (fun v' σ2 hq => ⟨⟨r, hq.1⟩, hq.2.1, hq.2.2, Eqs.nil⟩)⟩
  · cases f2
theorem sco_Wh_reachedFrom0 {E : xV} : ScOk E Yf DH JJ 15 sct_Wh_reachedFrom0 sw_Wh_reachedFrom0 := root1_ok GX_G GX_J ⟨GX_H, JJ_pb⟩ (fun _ => ScT_nil) ks_Wh_reachedFrom0_r (show ∀ a ∈ san_Wh_reachedFrom0, _ from List.forall_mem_cons.mpr ⟨ks_Wh_reachedFrom0_0, List.forall_mem_cons.mpr ⟨ks_Wh_reachedFrom0_1, List.forall_mem_cons.mpr ⟨ks_Wh_reachedFrom0_2, fun a ha => (by cases ha)⟩⟩⟩)
theorem stkH_put {E : xV} : BT.AllP (fun z qs => ∀ q ∈ qs, ScOk E Yf DH JJ z q.1 q.2) stH_put := ⟨⟨List.forall_mem_cons.mpr ⟨sco_Wh_reachedFrom0, fun _ h => (by cases h)⟩, trivial⟩, trivial⟩
theorem stkM_put {E : xV} : BT.AllP (fun z qs => ∀ q ∈ qs, ScOk E Yf (dN DH) JJ z q.1 q.2) stM_put := trivial
theorem an_put : ∀ a ∈ pc_put.an, chk2 GX pc_put DH 3000 a = true ∧ sdOk a = true := List.forall_mem_cons.mpr ⟨⟨k2_put_0, rfl⟩, List.forall_mem_cons.mpr ⟨⟨k2_put_1, rfl⟩, List.forall_mem_cons.mpr ⟨⟨k2_put_2, rfl⟩, List.forall_mem_cons.mpr ⟨⟨k2_put_3, rfl⟩, List.forall_mem_cons.mpr ⟨⟨k2_put_4, rfl⟩, List.forall_mem_cons.mpr ⟨⟨k2_put_5, rfl⟩, List.forall_mem_cons.mpr ⟨⟨k2_put_6, rfl⟩, List.forall_mem_cons.mpr ⟨⟨k2_put_7, rfl⟩, List.forall_mem_cons.mpr ⟨⟨k2_put_8, rfl⟩, List.forall_mem_cons.mpr ⟨⟨k2_put_9, rfl⟩, List.forall_mem_cons.mpr ⟨⟨k2_put_10, rfl⟩, List.forall_mem_cons.mpr ⟨⟨k2_put_11, rfl⟩, fun a ha => by cases ha⟩⟩⟩⟩⟩⟩⟩⟩⟩⟩⟩⟩
theorem LC_5_ok {E : xV} {σ : zS} (h : J0 σ) : LC_5 E σ J0 := by
  intro x0 x1 x2 x3
  obtain ⟨k1, k2⟩ := pub_ok (J := JJ) (q := ctP_put) (o := 0) (as := [.inl x0, .inl x1, .inl x2, .inl x3]) (ds := [T32, T32, T32, T32, [(0, 200)], [(0, 200)]]) (ks := [(5, 2), (110, 8)]) (σ := σ) (show pubOk ctP_put 0 [false, false, false, false] [T32, T32, T32, T32, [(0, 200)], [(0, 200)]] [(5, 2), (110, 8)] = true by decide +kernel) ⟨in32 _, in32 _, in32 _, in32 _, r0 h.2.1 (k := (5, 2)) (by decide), r0 h.2.1 (k := (110, 8)) (by decide), trivial⟩ h.1
  obtain ⟨rH, σ1, rM, σ2, ⟨r, e1, ⟨r2, e2, e3⟩, e4, e5⟩, hH, hM⟩ := root2_ok (E := E) (Y := Yf) (G := GX) (J := JJ) (D := DH) (C := pc_put) (K2 := K2i false) (n := 3000) (zH := 18) (zM := 321) (arH := ctP_put.ar) (arM := .r 110 :: ctP_put.ar.tail) (kn := kn_put) (big := 200000) GX_G GX_J ⟨GX_H, JJ_pb⟩ ⟨fun _ _ h => stkH_put.at h, fun _ _ h => stkM_put.at h⟩ (F2_i (C := pc_put) (by decide +kernel)) an_put k2_put_r (by decide +kernel) (by decide +kernel) k1 k2 (show Rs _ (.r 110 :: ctP_put.ar.tail) (.ref 110 :: _) from ⟨rfl, k2.2⟩)
  exact hH _ ⟨r, e1, hM _ ⟨⟨r2, e2⟩, e4, e5, Eqs.nil⟩⟩
theorem stkH_back {E : xV} : BT.AllP (fun z qs => ∀ q ∈ qs, ScOk E Yf DH JJ z q.1 q.2) stH_back := trivial
theorem stkM_back {E : xV} : BT.AllP (fun z qs => ∀ q ∈ qs, ScOk E Yf (dN DH) JJ z q.1 q.2) stM_back := trivial
theorem an_back : ∀ a ∈ pc_back.an, chk2 GX pc_back DH 3000 a = true ∧ sdOk a = true := fun a ha => by cases ha
theorem LC_6_ok {E : xV} {σ : zS} (h : J0 σ) : LC_6 E σ J0 := by
  intro x0
  obtain ⟨k1, k2⟩ := pub_ok (J := JJ) (q := ctP_back) (o := 0) (as := [.inl x0]) (ds := [T32, [(0, 200)], [(0, 200)]]) (ks := [(5, 2), (110, 8)]) (σ := σ) (show pubOk ctP_back 0 [false] [T32, [(0, 200)], [(0, 200)]] [(5, 2), (110, 8)] = true by decide +kernel) ⟨in32 _, r0 h.2.1 (k := (5, 2)) (by decide), r0 h.2.1 (k := (110, 8)) (by decide), trivial⟩ h.1
  obtain ⟨rH, σ1, rM, σ2, ⟨r, e1, ⟨r2, e2, e3⟩, e4, e5⟩, hH, hM⟩ := root2_ok (E := E) (Y := Yf) (G := GX) (J := JJ) (D := DH) (C := pc_back) (K2 := K2i false) (n := 3000) (zH := 20) (zM := 322) (arH := ctP_back.ar) (arM := .r 110 :: ctP_back.ar.tail) (kn := kn_back) (big := 1) GX_G GX_J ⟨GX_H, JJ_pb⟩ ⟨fun _ _ h => stkH_back.at h, fun _ _ h => stkM_back.at h⟩ (F2_i (C := pc_back) (by decide +kernel)) an_back k2_back_r (by decide +kernel) (by decide +kernel) k1 k2 (show Rs _ (.r 110 :: ctP_back.ar.tail) (.ref 110 :: _) from ⟨rfl, k2.2⟩)
  exact hH _ ⟨r, e1, hM _ ⟨⟨r2, e2⟩, e4, e5, Eqs.nil⟩⟩
theorem LC_13_e {E : xV} {σ : zS} (h : J0 σ) : LC_13 E σ J1 := by
  intro x0 x1
  obtain ⟨k1, k2⟩ := pub_ok (J := JJ1) (q := ctH_thing) (o := 0) (as := [.inl x0, .inl x1]) (ds := [T32, T32, [(0, 200)], [(0, 200)]]) (ks := [(5, 2), (110, 8)]) (σ := σ) (show pubOk ctH_thing 0 [false, false] [T32, T32, [(0, 200)], [(0, 200)]] [(5, 2), (110, 8)] = true by decide +kernel) ⟨in32 _, in32 _, r0 h.2.1 (k := (5, 2)) (by decide), r0 h.2.1 (k := (110, 8)) (by decide), trivial⟩ (jj1 h.1)
  refine (cH_thing (E := E) _ σ _ k1 k2).mono (fun v σ1 hv => ?_)
  obtain ⟨_, al, f2, ρ1, f3, f4, f5⟩ := hv
  rcases List.mem_cons.mp f2 with rfl | f2
  · obtain ⟨r, e, q⟩ := pair_i1 (E := E) (z := 333) (o1 := 0) (o2 := 110) (m := ctM_thing_0) (ar := ctH_thing.ar.tail) (a := .c (-3)) (kn := kn_thing_0) (kn' := knE_thing_0) cM_thing_0 rfl rfl rfl (by decide +kernel) f4 f5 k2 f3 rfl
    exact ⟨r, e, q.mono (fun v' σ2 hq => ⟨⟨r, hq.1⟩, hq.2.1, hq.2.2, Eqs.nil⟩)⟩
  rcases List.mem_cons.mp f2 with rfl | f2
  · obtain ⟨r, e, q⟩ := pair_i1 (E := E) (z := 333) (o1 := 0) (o2 := 110) (m := ctM_thing_1) (ar := ctH_thing.ar.tail) (a := v9_4) (kn := kn_thing_1) (kn' := knE_thing_1) cM_thing_1 rfl rfl rfl (by decide +kernel) f4 f5 k2 f3 rfl
    exact ⟨r, e, q.mono (fun v' σ2 hq => ⟨⟨r, hq.1⟩, hq.2.1, hq.2.2, Eqs.nil⟩)⟩
  rcases List.mem_cons.mp f2 with rfl | f2
  · obtain ⟨r, e, q⟩ := pair_i1 (E := E) (z := 333) (o1 := 0) (o2 := 110) (m := ctM_thing_2) (ar := ctH_thing.ar.tail) (a := .c (-1)) (kn := kn_thing_2) (kn' := knE_thing_2) cM_thing_2 rfl rfl rfl (by decide +kernel) f4 f5 k2 f3 rfl
    exact ⟨r, e, q.mono (fun v' σ2 hq => ⟨⟨r, hq.1⟩, hq.2.1, hq.2.2, Eqs.nil⟩)⟩
  rcases List.mem_cons.mp f2 with rfl | f2
  · obtain ⟨r, e, q⟩ := pair_i1 (E := E) (z := 333) (o1 := 0) (o2 := 110) (m := ctM_thing_3) (ar := ctH_thing.ar.tail) (a := .c (-1)) (kn := kn_thing_3) (kn' := knE_thing_3) cM_thing_3 rfl rfl rfl (by decide +kernel) f4 f5 k2 f3 rfl
    exact ⟨r, e, q.mono (fun v' σ2 hq => ⟨⟨r, hq.1⟩, hq.2.1, hq.2.2, Eqs.nil⟩)⟩
  rcases List.mem_cons.mp f2 with rfl | f2
  · obtain ⟨r, e, q⟩ := pair_i1 (E := E) (z := 333) (o1 := 0) (o2 := 110) (m := ctM_thing_4) (ar := ctH_thing.ar.tail) (a := .c (-3)) (kn := kn_thing_4) (kn' := knE_thing_4) cM_thing_4 rfl rfl rfl (by decide +kernel) f4 f5 k2 f3 rfl
    exact ⟨r, e, q.mono (fun v' σ2 hq => ⟨⟨r, hq.1⟩, hq.2.1, hq.2.2, Eqs.nil⟩)⟩
  rcases List.mem_cons.mp f2 with rfl | f2
  · obtain ⟨r, e, q⟩ := pair_i1 (E := E) (z := 333) (o1 := 0) (o2 := 110) (m := ctM_thing_5) (ar := ctH_thing.ar.tail) (a := v9_4) (kn := kn_thing_5) (kn' := knE_thing_5) cM_thing_5 rfl rfl rfl (by decide +kernel) f4 f5 k2 f3 rfl
    exact ⟨r, e, q.mono (fun v' σ2 hq => ⟨⟨r, hq.1⟩, hq.2.1, hq.2.2, Eqs.nil⟩)⟩
  rcases List.mem_cons.mp f2 with rfl | f2
  · obtain ⟨r, e, q⟩ := pair_i1 (E := E) (z := 333) (o1 := 0) (o2 := 110) (m := ctM_thing_6) (ar := ctH_thing.ar.tail) (a := .c (-1)) (kn := kn_thing_6) (kn' := knE_thing_6) cM_thing_6 rfl rfl rfl (by decide +kernel) f4 f5 k2 f3 rfl
    exact ⟨r, e, q.mono (fun v' σ2 hq => ⟨⟨r, hq.1⟩, hq.2.1, hq.2.2, Eqs.nil⟩)⟩
  rcases List.mem_cons.mp f2 with rfl | f2
  · obtain ⟨r, e, q⟩ := pair_i1 (E := E) (z := 333) (o1 := 0) (o2 := 110) (m := ctM_thing_7) (ar := ctH_thing.ar.tail) (a := .c (-1)) (kn := kn_thing_7) (kn' := knE_thing_7) cM_thing_7 rfl rfl rfl (by decide +kernel) f4 f5 k2 f3 rfl
    exact ⟨r, e, q.mono (fun v' σ2 hq => ⟨⟨r, hq.1⟩, hq.2.1, hq.2.2, Eqs.nil⟩)⟩
  rcases List.mem_cons.mp f2 with rfl | f2
  · obtain ⟨r, e, q⟩ := pair_i1 (E := E) (z := 333) (o1 := 0) (o2 := 110) (m := ctM_thing_8) (ar := ctH_thing.ar.tail) (a := .c (-1)) (kn := kn_thing_8) (kn' := knE_thing_8) cM_thing_8 rfl rfl rfl (by decide +kernel) f4 f5 k2 f3 rfl
    exact ⟨r, e, q.mono (fun v' σ2 hq => ⟨⟨r, hq.1⟩, hq.2.1, hq.2.2, Eqs.nil⟩)⟩
  · cases f2
theorem LC_14_e {E : xV} {σ : zS} (h : J0 σ) : LC_14 E σ J1 := by
  intro x0 x1
  obtain ⟨k1, k2⟩ := pub_ok (J := JJ1) (q := ctH_move) (o := 0) (as := [.inl x0, .inl x1]) (ds := [T32, T32, [(0, 200)], [(0, 200)]]) (ks := [(5, 2), (110, 8)]) (σ := σ) (show pubOk ctH_move 0 [false, false] [T32, T32, [(0, 200)], [(0, 200)]] [(5, 2), (110, 8)] = true by decide +kernel) ⟨in32 _, in32 _, r0 h.2.1 (k := (5, 2)) (by decide), r0 h.2.1 (k := (110, 8)) (by decide), trivial⟩ (jj1 h.1)
  refine (cH_move (E := E) _ σ _ k1 k2).mono (fun v σ1 hv => ?_)
  obtain ⟨_, al, f2, ρ1, f3, f4, f5⟩ := hv
  rcases List.mem_cons.mp f2 with rfl | f2
  · obtain ⟨r, e, q⟩ := pair_i1 (E := E) (z := 334) (o1 := 0) (o2 := 110) (m := ctM_move_0) (ar := ctH_move.ar.tail) (a := .c (-2)) (kn := kn_move_0) (kn' := knE_move_0) cM_move_0 rfl rfl rfl (by decide +kernel) f4 f5 k2 f3 rfl
    exact ⟨r, e, q.mono (fun v' σ2 hq => ⟨⟨r, hq.1⟩, hq.2.1, hq.2.2, Eqs.nil⟩)⟩
  rcases List.mem_cons.mp f2 with rfl | f2
  · obtain ⟨r, e, q⟩ := pair_i1 (E := E) (z := 334) (o1 := 0) (o2 := 110) (m := ctM_move_1) (ar := ctH_move.ar.tail) (a := c9_1) (kn := kn_move_1) (kn' := knE_move_1) cM_move_1 rfl rfl rfl (by decide +kernel) f4 f5 k2 f3 rfl
    exact ⟨r, e, q.mono (fun v' σ2 hq => ⟨⟨r, hq.1⟩, hq.2.1, hq.2.2, Eqs.nil⟩)⟩
  rcases List.mem_cons.mp f2 with rfl | f2
  · obtain ⟨r, e, q⟩ := pair_i1 (E := E) (z := 334) (o1 := 0) (o2 := 110) (m := ctM_move_2) (ar := ctH_move.ar.tail) (a := .c (-1)) (kn := kn_move_2) (kn' := knE_move_2) cM_move_2 rfl rfl rfl (by decide +kernel) f4 f5 k2 f3 rfl
    exact ⟨r, e, q.mono (fun v' σ2 hq => ⟨⟨r, hq.1⟩, hq.2.1, hq.2.2, Eqs.nil⟩)⟩
  rcases List.mem_cons.mp f2 with rfl | f2
  · obtain ⟨r, e, q⟩ := pair_i1 (E := E) (z := 334) (o1 := 0) (o2 := 110) (m := ctM_move_3) (ar := ctH_move.ar.tail) (a := .c (-1)) (kn := kn_move_3) (kn' := knE_move_3) cM_move_3 rfl rfl rfl (by decide +kernel) f4 f5 k2 f3 rfl
    exact ⟨r, e, q.mono (fun v' σ2 hq => ⟨⟨r, hq.1⟩, hq.2.1, hq.2.2, Eqs.nil⟩)⟩
  rcases List.mem_cons.mp f2 with rfl | f2
  · obtain ⟨r, e, q⟩ := pair_i1 (E := E) (z := 334) (o1 := 0) (o2 := 110) (m := ctM_move_4) (ar := ctH_move.ar.tail) (a := .c (-1)) (kn := kn_move_4) (kn' := knE_move_4) cM_move_4 rfl rfl rfl (by decide +kernel) f4 f5 k2 f3 rfl
    exact ⟨r, e, q.mono (fun v' σ2 hq => ⟨⟨r, hq.1⟩, hq.2.1, hq.2.2, Eqs.nil⟩)⟩
  rcases List.mem_cons.mp f2 with rfl | f2
  · obtain ⟨r, e, q⟩ := pair_i1 (E := E) (z := 334) (o1 := 0) (o2 := 110) (m := ctM_move_5) (ar := ctH_move.ar.tail) (a := .c (-1)) (kn := kn_move_5) (kn' := knE_move_5) cM_move_5 rfl rfl rfl (by decide +kernel) f4 f5 k2 f3 rfl
    exact ⟨r, e, q.mono (fun v' σ2 hq => ⟨⟨r, hq.1⟩, hq.2.1, hq.2.2, Eqs.nil⟩)⟩
  rcases List.mem_cons.mp f2 with rfl | f2
  · obtain ⟨r, e, q⟩ := pair_i1 (E := E) (z := 334) (o1 := 0) (o2 := 110) (m := ctM_move_6) (ar := ctH_move.ar.tail) (a := .c (-1)) (kn := kn_move_6) (kn' := knE_move_6) cM_move_6 rfl rfl rfl (by decide +kernel) f4 f5 k2 f3 rfl
    exact ⟨r, e, q.mono (fun v' σ2 hq => ⟨⟨r, hq.1⟩, hq.2.1, hq.2.2, Eqs.nil⟩)⟩
  rcases List.mem_cons.mp f2 with rfl | f2
  · obtain ⟨r, e, q⟩ := pair_i1 (E := E) (z := 334) (o1 := 0) (o2 := 110) (m := ctM_move_7) (ar := ctH_move.ar.tail) (a := .c (-1)) (kn := kn_move_7) (kn' := knE_move_7) cM_move_7 rfl rfl rfl (by decide +kernel) f4 f5 k2 f3 rfl
    exact ⟨r, e, q.mono (fun v' σ2 hq => ⟨⟨r, hq.1⟩, hq.2.1, hq.2.2, Eqs.nil⟩)⟩
  rcases List.mem_cons.mp f2 with rfl | f2
  · obtain ⟨r, e, q⟩ := pair_i1 (E := E) (z := 334) (o1 := 0) (o2 := 110) (m := ctM_move_8) (ar := ctH_move.ar.tail) (a := .c (-1)) (kn := kn_move_8) (kn' := knE_move_8) cM_move_8 rfl rfl rfl (by decide +kernel) f4 f5 k2 f3 rfl
    exact ⟨r, e, q.mono (fun v' σ2 hq => ⟨⟨r, hq.1⟩, hq.2.1, hq.2.2, Eqs.nil⟩)⟩
  · cases f2
theorem LC_15_ok {E : xV} {σ : zS} (h : J0 σ) : LC_15 E σ J0 := by
  intro x0 x1 hbool
  have b_x1 : inD (Arg.i (.inl x1)) [(0, 1)] := by rcases hbool with rfl | rfl <;> exact ⟨_, List.mem_cons_self .., by decide, by decide⟩
  obtain ⟨k1, k2⟩ := pub_ok (J := JJ) (q := ctH_cutOff) (o := 0) (as := [.inl x0, .inl x1]) (ds := [T32, [(0, 1)], [(0, 200)], [(0, 200)]]) (ks := [(5, 2), (110, 8)]) (σ := σ) (show pubOk ctH_cutOff 0 [false, false] [T32, [(0, 1)], [(0, 200)], [(0, 200)]] [(5, 2), (110, 8)] = true by decide +kernel) ⟨in32 _, b_x1, r0 h.2.1 (k := (5, 2)) (by decide), r0 h.2.1 (k := (110, 8)) (by decide), trivial⟩ h.1
  refine (cH_cutOff (E := E) _ σ _ k1 k2).mono (fun v σ1 hv => ?_)
  obtain ⟨_, al, f2, ρ1, f3, f4, f5⟩ := hv
  rcases List.mem_cons.mp f2 with rfl | f2
  · obtain ⟨r, e, q⟩ := pair_i (E := E) (z := 335) (o1 := 0) (o2 := 110) (m := ctM_cutOff_0) (ar := ctH_cutOff.ar.tail) (a := c9_1) (kn := kn_cutOff_0) (kn' := knE_cutOff_0) cM_cutOff_0 rfl rfl rfl (by decide +kernel) f4 f5 k2 f3 rfl
    exact ⟨r, e, q.mono (fun v' σ2 hq => ⟨⟨r, hq.1⟩, hq.2.1, hq.2.2, Eqs.nil⟩)⟩
  rcases List.mem_cons.mp f2 with rfl | f2
  · obtain ⟨r, e, q⟩ := pair_i (E := E) (z := 335) (o1 := 0) (o2 := 110) (m := ctM_cutOff_1) (ar := ctH_cutOff.ar.tail) (a := c9_0) (kn := kn_cutOff_1) (kn' := knE_cutOff_1) cM_cutOff_1 rfl rfl rfl (by decide +kernel) f4 f5 k2 f3 rfl
    exact ⟨r, e, q.mono (fun v' σ2 hq => ⟨⟨r, hq.1⟩, hq.2.1, hq.2.2, Eqs.nil⟩)⟩
  rcases List.mem_cons.mp f2 with rfl | f2
  · obtain ⟨r, e, q⟩ := pair_i (E := E) (z := 335) (o1 := 0) (o2 := 110) (m := ctM_cutOff_2) (ar := ctH_cutOff.ar.tail) (a := c9_1) (kn := kn_cutOff_2) (kn' := knE_cutOff_2) cM_cutOff_2 rfl rfl rfl (by decide +kernel) f4 f5 k2 f3 rfl
    exact ⟨r, e, q.mono (fun v' σ2 hq => ⟨⟨r, hq.1⟩, hq.2.1, hq.2.2, Eqs.nil⟩)⟩
  rcases List.mem_cons.mp f2 with rfl | f2
  · obtain ⟨r, e, q⟩ := pair_i (E := E) (z := 335) (o1 := 0) (o2 := 110) (m := ctM_cutOff_3) (ar := ctH_cutOff.ar.tail) (a := .c (-1)) (kn := kn_cutOff_3) (kn' := knE_cutOff_3) cM_cutOff_3 rfl rfl rfl (by decide +kernel) f4 f5 k2 f3 rfl
    exact ⟨r, e, q.mono (fun v' σ2 hq => ⟨⟨r, hq.1⟩, hq.2.1, hq.2.2, Eqs.nil⟩)⟩
  rcases List.mem_cons.mp f2 with rfl | f2
  · obtain ⟨r, e, q⟩ := pair_i (E := E) (z := 335) (o1 := 0) (o2 := 110) (m := ctM_cutOff_4) (ar := ctH_cutOff.ar.tail) (a := .c (-1)) (kn := kn_cutOff_4) (kn' := knE_cutOff_4) cM_cutOff_4 rfl rfl rfl (by decide +kernel) f4 f5 k2 f3 rfl
    exact ⟨r, e, q.mono (fun v' σ2 hq => ⟨⟨r, hq.1⟩, hq.2.1, hq.2.2, Eqs.nil⟩)⟩
  rcases List.mem_cons.mp f2 with rfl | f2
  · obtain ⟨r, e, q⟩ := pair_i (E := E) (z := 335) (o1 := 0) (o2 := 110) (m := ctM_cutOff_5) (ar := ctH_cutOff.ar.tail) (a := .c (-1)) (kn := kn_cutOff_5) (kn' := knE_cutOff_5) cM_cutOff_5 rfl rfl rfl (by decide +kernel) f4 f5 k2 f3 rfl
    exact ⟨r, e, q.mono (fun v' σ2 hq => ⟨⟨r, hq.1⟩, hq.2.1, hq.2.2, Eqs.nil⟩)⟩
  · cases f2
theorem LC_16_e {E : xV} {σ : zS} (h : J0 σ) : LC_16 E σ J1 := by
  intro x0
  obtain ⟨k1, k2⟩ := pub_ok (J := JJ1) (q := ctH_drop) (o := 0) (as := [.inl x0]) (ds := [T32, [(0, 200)], [(0, 200)]]) (ks := [(5, 2), (110, 8)]) (σ := σ) (show pubOk ctH_drop 0 [false] [T32, [(0, 200)], [(0, 200)]] [(5, 2), (110, 8)] = true by decide +kernel) ⟨in32 _, r0 h.2.1 (k := (5, 2)) (by decide), r0 h.2.1 (k := (110, 8)) (by decide), trivial⟩ (jj1 h.1)
  refine (cH_drop (E := E) _ σ _ k1 k2).mono (fun v σ1 hv => ?_)
  obtain ⟨_, al, f2, ρ1, f3, f4, f5⟩ := hv
  rcases List.mem_cons.mp f2 with rfl | f2
  · obtain ⟨r, e, q⟩ := pair_i1 (E := E) (z := 336) (o1 := 0) (o2 := 110) (m := ctM_drop_0) (ar := ctH_drop.ar.tail) (a := .c (-2)) (kn := kn_drop_0) (kn' := knE_drop_0) cM_drop_0 rfl rfl rfl (by decide +kernel) f4 f5 k2 f3 rfl
    exact ⟨r, e, q.mono (fun v' σ2 hq => ⟨⟨r, hq.1⟩, hq.2.1, hq.2.2, Eqs.nil⟩)⟩
  rcases List.mem_cons.mp f2 with rfl | f2
  · obtain ⟨r, e, q⟩ := pair_i1 (E := E) (z := 336) (o1 := 0) (o2 := 110) (m := ctM_drop_1) (ar := ctH_drop.ar.tail) (a := c9_1) (kn := kn_drop_1) (kn' := knE_drop_1) cM_drop_1 rfl rfl rfl (by decide +kernel) f4 f5 k2 f3 rfl
    exact ⟨r, e, q.mono (fun v' σ2 hq => ⟨⟨r, hq.1⟩, hq.2.1, hq.2.2, Eqs.nil⟩)⟩
  rcases List.mem_cons.mp f2 with rfl | f2
  · obtain ⟨r, e, q⟩ := pair_i1 (E := E) (z := 336) (o1 := 0) (o2 := 110) (m := ctM_drop_2) (ar := ctH_drop.ar.tail) (a := .c (-1)) (kn := kn_drop_2) (kn' := knE_drop_2) cM_drop_2 rfl rfl rfl (by decide +kernel) f4 f5 k2 f3 rfl
    exact ⟨r, e, q.mono (fun v' σ2 hq => ⟨⟨r, hq.1⟩, hq.2.1, hq.2.2, Eqs.nil⟩)⟩
  rcases List.mem_cons.mp f2 with rfl | f2
  · obtain ⟨r, e, q⟩ := pair_i1 (E := E) (z := 336) (o1 := 0) (o2 := 110) (m := ctM_drop_3) (ar := ctH_drop.ar.tail) (a := .c (-1)) (kn := kn_drop_3) (kn' := knE_drop_3) cM_drop_3 rfl rfl rfl (by decide +kernel) f4 f5 k2 f3 rfl
    exact ⟨r, e, q.mono (fun v' σ2 hq => ⟨⟨r, hq.1⟩, hq.2.1, hq.2.2, Eqs.nil⟩)⟩
  rcases List.mem_cons.mp f2 with rfl | f2
  · obtain ⟨r, e, q⟩ := pair_i1 (E := E) (z := 336) (o1 := 0) (o2 := 110) (m := ctM_drop_4) (ar := ctH_drop.ar.tail) (a := .c (-1)) (kn := kn_drop_4) (kn' := knE_drop_4) cM_drop_4 rfl rfl rfl (by decide +kernel) f4 f5 k2 f3 rfl
    exact ⟨r, e, q.mono (fun v' σ2 hq => ⟨⟨r, hq.1⟩, hq.2.1, hq.2.2, Eqs.nil⟩)⟩
  rcases List.mem_cons.mp f2 with rfl | f2
  · obtain ⟨r, e, q⟩ := pair_i1 (E := E) (z := 336) (o1 := 0) (o2 := 110) (m := ctM_drop_5) (ar := ctH_drop.ar.tail) (a := .c (-1)) (kn := kn_drop_5) (kn' := knE_drop_5) cM_drop_5 rfl rfl rfl (by decide +kernel) f4 f5 k2 f3 rfl
    exact ⟨r, e, q.mono (fun v' σ2 hq => ⟨⟨r, hq.1⟩, hq.2.1, hq.2.2, Eqs.nil⟩)⟩
  · cases f2
theorem stkH_law {E : xV} : BT.AllP (fun z qs => ∀ q ∈ qs, ScOk E Yf DH JJ z q.1 q.2) stH_law := trivial
theorem stkM_law {E : xV} : BT.AllP (fun z qs => ∀ q ∈ qs, ScOk E Yf (dN DH) JJ z q.1 q.2) stM_law := trivial
theorem an_law : ∀ a ∈ pc_law.an, chk2 GX pc_law DH 3000 a = true ∧ sdOk a = true := fun a ha => by cases ha
theorem LC_32_ok {E : xV} {σ : zS} (h : J0 σ) : LC_32 E σ J0 := by
  intro x0 x1 x2
  obtain ⟨k1, k2⟩ := pub_ok (J := JJ) (q := ctP_law) (o := 0) (as := [.inl x0, .inl x1, .inl x2]) (ds := [T32, T32, T32, [(0, 200)], [(0, 200)]]) (ks := [(5, 2), (110, 8)]) (σ := σ) (show pubOk ctP_law 0 [false, false, false] [T32, T32, T32, [(0, 200)], [(0, 200)]] [(5, 2), (110, 8)] = true by decide +kernel) ⟨in32 _, in32 _, in32 _, r0 h.2.1 (k := (5, 2)) (by decide), r0 h.2.1 (k := (110, 8)) (by decide), trivial⟩ h.1
  obtain ⟨rH, σ1, rM, σ2, ⟨r, e1, ⟨r2, e2, e3⟩, e4, e5⟩, hH, hM⟩ := root2_ok (E := E) (Y := Yf) (G := GX) (J := JJ) (D := DH) (C := pc_law) (K2 := K2i false) (n := 3000) (zH := 158) (zM := 402) (arH := ctP_law.ar) (arM := .r 110 :: ctP_law.ar.tail) (kn := kn_law) (big := 1) GX_G GX_J ⟨GX_H, JJ_pb⟩ ⟨fun _ _ h => stkH_law.at h, fun _ _ h => stkM_law.at h⟩ (F2_i (C := pc_law) (by decide +kernel)) an_law k2_law_r (by decide +kernel) (by decide +kernel) k1 k2 (show Rs _ (.r 110 :: ctP_law.ar.tail) (.ref 110 :: _) from ⟨rfl, k2.2⟩)
  exact hH _ ⟨r, e1, hM _ ⟨⟨r2, e2⟩, e4, e5, Eqs.nil⟩⟩
noncomputable def LCc_33 (E : xV) (σ : zS) (J : zS → Prop) : Prop := ∀ (x0 : Int32) (x1 : Int32) (x2 : Int32) (x3 : Int32), Cz E Y_H_give [.ref 0, .int x0, .int x1, .int x2, .int x3] σ (fun v σ1 => ∃ r : Int32, v = some (.int r) ∧ Cz E Y_M_give [.ref 110, .int x0, .int x1, .int x2, .int x3] σ1 (fun v' σ2 => v' = some (.int r) ∧ J σ2))
theorem sco_Wh_groupsOf0 {E : xV} : ScOk E Yf DH JJ 21 sct_Wh_groupsOf0 sw_Wh_groupsOf0 := root1_ok GX_G GX_J ⟨GX_H, JJ_pb⟩ (fun _ => ScT_nil) ks_Wh_groupsOf0_r (show ∀ a ∈ san_Wh_groupsOf0, _ from List.forall_mem_cons.mpr ⟨ks_Wh_groupsOf0_0, List.forall_mem_cons.mpr ⟨ks_Wh_groupsOf0_1, List.forall_mem_cons.mpr ⟨ks_Wh_groupsOf0_2, List.forall_mem_cons.mpr ⟨ks_Wh_groupsOf0_3, fun a ha => (by cases ha)⟩⟩⟩⟩)
theorem sco_M_reaches0 {E : xV} : ScOk E Yf (dN DH) JJ 318 sct_M_reaches0 sw_M_reaches0 := root1_ok GX_G GX_J ⟨GX_H, JJ_pb⟩ (fun _ => ScT_nil) ks_M_reaches0_r (show ∀ a ∈ san_M_reaches0, _ from List.forall_mem_cons.mpr ⟨ks_M_reaches0_0, List.forall_mem_cons.mpr ⟨ks_M_reaches0_1, List.forall_mem_cons.mpr ⟨ks_M_reaches0_2, List.forall_mem_cons.mpr ⟨ks_M_reaches0_3, List.forall_mem_cons.mpr ⟨ks_M_reaches0_4, List.forall_mem_cons.mpr ⟨ks_M_reaches0_5, fun a ha => (by cases ha)⟩⟩⟩⟩⟩⟩)
theorem sco_M_reaches1 {E : xV} : ScOk E Yf (dN DH) JJ 318 sct_M_reaches1 sw_M_reaches1 := root1_ok GX_G GX_J ⟨GX_H, JJ_pb⟩ (fun _ => ScT_nil) ks_M_reaches1_r (show ∀ a ∈ san_M_reaches1, _ from List.forall_mem_cons.mpr ⟨ks_M_reaches1_0, List.forall_mem_cons.mpr ⟨ks_M_reaches1_1, List.forall_mem_cons.mpr ⟨ks_M_reaches1_2, List.forall_mem_cons.mpr ⟨ks_M_reaches1_3, List.forall_mem_cons.mpr ⟨ks_M_reaches1_4, List.forall_mem_cons.mpr ⟨ks_M_reaches1_5, fun a ha => (by cases ha)⟩⟩⟩⟩⟩⟩)
theorem sco_Wh_groupsOf1 {E : xV} : ScOk E Yf DH JJ 21 sct_Wh_groupsOf1 sw_Wh_groupsOf1 := root1_ok GX_G GX_J ⟨GX_H, JJ_pb⟩ (fun _ => ScT_nil) ks_Wh_groupsOf1_r (show ∀ a ∈ san_Wh_groupsOf1, _ from List.forall_mem_cons.mpr ⟨ks_Wh_groupsOf1_0, List.forall_mem_cons.mpr ⟨ks_Wh_groupsOf1_1, List.forall_mem_cons.mpr ⟨ks_Wh_groupsOf1_2, List.forall_mem_cons.mpr ⟨ks_Wh_groupsOf1_3, fun a ha => (by cases ha)⟩⟩⟩⟩)
theorem sco_M_reaches2 {E : xV} : ScOk E Yf (dN DH) JJ 318 sct_M_reaches2 sw_M_reaches2 := root1_ok GX_G GX_J ⟨GX_H, JJ_pb⟩ (fun _ => ScT_nil) ks_M_reaches2_r (show ∀ a ∈ san_M_reaches2, _ from List.forall_mem_cons.mpr ⟨ks_M_reaches2_0, List.forall_mem_cons.mpr ⟨ks_M_reaches2_1, List.forall_mem_cons.mpr ⟨ks_M_reaches2_2, List.forall_mem_cons.mpr ⟨ks_M_reaches2_3, List.forall_mem_cons.mpr ⟨ks_M_reaches2_4, List.forall_mem_cons.mpr ⟨ks_M_reaches2_5, fun a ha => (by cases ha)⟩⟩⟩⟩⟩⟩)
theorem stkH_give {E : xV} : BT.AllP (fun z qs => ∀ q ∈ qs, ScOk E Yf DH JJ z q.1 q.2) stH_give := ⟨⟨List.forall_mem_cons.mpr ⟨sco_Wh_groupsOf0, List.forall_mem_cons.mpr ⟨sco_Wh_groupsOf1, fun _ h => (by cases h)⟩⟩, trivial⟩, trivial⟩
theorem stkM_give {E : xV} : BT.AllP (fun z qs => ∀ q ∈ qs, ScOk E Yf (dN DH) JJ z q.1 q.2) stM_give := ⟨⟨List.forall_mem_cons.mpr ⟨sco_M_reaches0, List.forall_mem_cons.mpr ⟨sco_M_reaches1, List.forall_mem_cons.mpr ⟨sco_M_reaches2, fun _ h => (by cases h)⟩⟩⟩, trivial⟩, trivial⟩
theorem an_give : ∀ a ∈ pc_give.an, chk2 GX pc_give DH 3000 a = true ∧ sdOk a = true := List.forall_mem_cons.mpr ⟨⟨k2_give_0, rfl⟩, List.forall_mem_cons.mpr ⟨⟨k2_give_1, rfl⟩, List.forall_mem_cons.mpr ⟨⟨k2_give_2, rfl⟩, List.forall_mem_cons.mpr ⟨⟨k2_give_3, rfl⟩, List.forall_mem_cons.mpr ⟨⟨k2_give_4, rfl⟩, List.forall_mem_cons.mpr ⟨⟨k2_give_5, rfl⟩, List.forall_mem_cons.mpr ⟨⟨k2_give_6, rfl⟩, List.forall_mem_cons.mpr ⟨⟨k2_give_7, rfl⟩, List.forall_mem_cons.mpr ⟨⟨k2_give_8, rfl⟩, List.forall_mem_cons.mpr ⟨⟨k2_give_9, rfl⟩, List.forall_mem_cons.mpr ⟨⟨k2_give_10, rfl⟩, fun a ha => by cases ha⟩⟩⟩⟩⟩⟩⟩⟩⟩⟩⟩
theorem LC_33_c {E : xV} {σ : zS} (h : J0 σ) : LCc_33 E σ J0 := by
  intro x0 x1 x2 x3
  obtain ⟨k1, k2⟩ := pub_ok (J := JJ) (q := ctP_give) (o := 0) (as := [.inl x0, .inl x1, .inl x2, .inl x3]) (ds := [T32, T32, T32, T32, [(0, 200)], [(0, 200)]]) (ks := [(5, 2), (110, 8)]) (σ := σ) (show pubOk ctP_give 0 [false, false, false, false] [T32, T32, T32, T32, [(0, 200)], [(0, 200)]] [(5, 2), (110, 8)] = true by decide +kernel) ⟨in32 _, in32 _, in32 _, in32 _, r0 h.2.1 (k := (5, 2)) (by decide), r0 h.2.1 (k := (110, 8)) (by decide), trivial⟩ h.1
  obtain ⟨rH, σ1, rM, σ2, ⟨r, e1, ⟨r2, e2, e3⟩, e4, e5⟩, hH, hM⟩ := root2_ok (E := E) (Y := Yf) (G := GX) (J := JJ) (D := DH) (C := pc_give) (K2 := K2i true) (n := 3000) (zH := 164) (zM := 405) (arH := ctP_give.ar) (arM := .r 110 :: ctP_give.ar.tail) (kn := kn_give) (big := 2000000) GX_G GX_J ⟨GX_H, JJ_pb⟩ ⟨fun _ _ h => stkH_give.at h, fun _ _ h => stkM_give.at h⟩ (F2_i (C := pc_give) (by decide +kernel)) an_give k2_give_r (by decide +kernel) (by decide +kernel) k1 k2 (show Rs _ (.r 110 :: ctP_give.ar.tail) (.ref 110 :: _) from ⟨rfl, k2.2⟩)
  exact hH _ ⟨r, e1, hM _ ⟨by rw [e2, e3 rfl], e4, e5, Eqs.nil⟩⟩
theorem LC_33_ok {E : xV} {σ : zS} (h : J0 σ) : LC_33 E σ J0 := fun x0 x1 x2 x3 => (LC_33_c h x0 x1 x2 x3).mono (fun _ _ ⟨r, e, q⟩ => ⟨r, e, q.mono (fun _ _ ⟨a, b⟩ => ⟨⟨r, a⟩, b⟩)⟩)
theorem stkH_take {E : xV} : BT.AllP (fun z qs => ∀ q ∈ qs, ScOk E Yf DH JJ z q.1 q.2) stH_take := ⟨⟨List.forall_mem_cons.mpr ⟨sco_Wh_groupsOf0, fun _ h => (by cases h)⟩, trivial⟩, trivial⟩
theorem stkM_take {E : xV} : BT.AllP (fun z qs => ∀ q ∈ qs, ScOk E Yf (dN DH) JJ z q.1 q.2) stM_take := ⟨⟨List.forall_mem_cons.mpr ⟨sco_M_reaches1, fun _ h => (by cases h)⟩, trivial⟩, trivial⟩
theorem an_take : ∀ a ∈ pc_take.an, chk2 GX pc_take DH 3000 a = true ∧ sdOk a = true := List.forall_mem_cons.mpr ⟨⟨k2_take_0, rfl⟩, List.forall_mem_cons.mpr ⟨⟨k2_take_1, rfl⟩, List.forall_mem_cons.mpr ⟨⟨k2_take_2, rfl⟩, fun a ha => by cases ha⟩⟩⟩
theorem LC_34_ok {E : xV} {σ : zS} (h : J0 σ) : LC_34 E σ J0 := by
  intro x0 x1 x2
  obtain ⟨k1, k2⟩ := pub_ok (J := JJ) (q := ctP_take) (o := 0) (as := [.inl x0, .inl x1, .inl x2]) (ds := [T32, T32, T32, [(0, 200)], [(0, 200)]]) (ks := [(5, 2), (110, 8)]) (σ := σ) (show pubOk ctP_take 0 [false, false, false] [T32, T32, T32, [(0, 200)], [(0, 200)]] [(5, 2), (110, 8)] = true by decide +kernel) ⟨in32 _, in32 _, in32 _, r0 h.2.1 (k := (5, 2)) (by decide), r0 h.2.1 (k := (110, 8)) (by decide), trivial⟩ h.1
  obtain ⟨rH, σ1, rM, σ2, ⟨r, e1, ⟨r2, e2, e3⟩, e4, e5⟩, hH, hM⟩ := root2_ok (E := E) (Y := Yf) (G := GX) (J := JJ) (D := DH) (C := pc_take) (K2 := K2i false) (n := 3000) (zH := 166) (zM := 406) (arH := ctP_take.ar) (arM := .r 110 :: ctP_take.ar.tail) (kn := kn_take) (big := 200000) GX_G GX_J ⟨GX_H, JJ_pb⟩ ⟨fun _ _ h => stkH_take.at h, fun _ _ h => stkM_take.at h⟩ (F2_i (C := pc_take) (by decide +kernel)) an_take k2_take_r (by decide +kernel) (by decide +kernel) k1 k2 (show Rs _ (.r 110 :: ctP_take.ar.tail) (.ref 110 :: _) from ⟨rfl, k2.2⟩)
  exact hH _ ⟨r, e1, hM _ ⟨⟨r2, e2⟩, e4, e5, Eqs.nil⟩⟩
end
